/-! step rows, by program (wip/whole/gen_rows.py) -/
theorem d0_0 : decode cL_law 0 = .ok (.new 7, 3) := by decide +kernel
theorem k0_0 {d : Nat} {l0 l1 l2 l3 : Option PV} {st : List PV} {M : Mem} {Q : Option PV → Mem → Prop} : WP d 0 0 [l0, l1, l2, l3] (st) M Q = WP d 0 3 [l0, l1, l2, l3] (vr (mX M) :: st) (nw M 11 0 17) Q := w_new mC_0 d0_0 (k := 11) rfl
theorem d0_3 : decode cL_law 3 = .ok (.dup, 1) := by decide +kernel
theorem k0_3 {d : Nat} {l0 l1 l2 l3 : Option PV} {st : List PV} {M : Mem} {Q : Option PV → Mem → Prop} {x : Nat} : WP d 0 3 [l0, l1, l2, l3] (vr x :: st) M Q = WP d 0 4 [l0, l1, l2, l3] (vr x :: vr x :: st) M Q := w1 mC_0 d0_3 rfl rfl
theorem k0_3i {d : Nat} {l0 l1 l2 l3 : Option PV} {st : List PV} {M : Mem} {Q : Option PV → Mem → Prop} {x : Int32} : WP d 0 3 [l0, l1, l2, l3] (vi x :: st) M Q = WP d 0 4 [l0, l1, l2, l3] (vi x :: vi x :: st) M Q := w1 mC_0 d0_3 rfl rfl
theorem d0_4 : decode cL_law 4 = .ok (.invokespecial 9, 3) := by decide +kernel
theorem k0_4 {d : Nat} {l0 l1 l2 l3 : Option PV} {st : List PV} {M : Mem} {Q : Option PV → Mem → Prop} {r : Nat} (hl : szL st ≤ 8) (hk : mK M r < 13) : WP (d + 1) 0 4 [l0, l1, l2, l3] (vr r :: st) M Q = WP d 70 0 [some (vr r), none] [] M (fun v M' => WP (d + 1) 0 7 [l0, l1, l2, l3] (psh v st) M' Q) := w_callI mC_0 d0_4 rfl rfl (Nat.le_of_ble_eq_true rfl) (by decide) rfl hl hk
theorem d0_7 : decode cL_law 7 = .ok (.astore_n 1, 1) := by decide +kernel
theorem k0_7 {d : Nat} {l0 l1 l2 l3 : Option PV} {st : List PV} {M : Mem} {Q : Option PV → Mem → Prop} {x : Nat} : WP d 0 7 [l0, l1, l2, l3] (vr x :: st) M Q = WP d 0 8 [l0, some (vr x), l2, l3] (st) M Q := w1 mC_0 d0_7 rfl rfl
theorem d0_8 : decode cL_law 8 = .ok (.new 10, 3) := by decide +kernel
theorem k0_8 {d : Nat} {l0 l1 l2 l3 : Option PV} {st : List PV} {M : Mem} {Q : Option PV → Mem → Prop} : WP d 0 8 [l0, l1, l2, l3] (st) M Q = WP d 0 11 [l0, l1, l2, l3] (vr (mX M) :: st) (nw M 12 0 48) Q := w_new mC_0 d0_8 (k := 12) rfl
theorem d0_11 : decode cL_law 11 = .ok (.dup, 1) := by decide +kernel
theorem k0_11 {d : Nat} {l0 l1 l2 l3 : Option PV} {st : List PV} {M : Mem} {Q : Option PV → Mem → Prop} {x : Nat} : WP d 0 11 [l0, l1, l2, l3] (vr x :: st) M Q = WP d 0 12 [l0, l1, l2, l3] (vr x :: vr x :: st) M Q := w1 mC_0 d0_11 rfl rfl
theorem k0_11i {d : Nat} {l0 l1 l2 l3 : Option PV} {st : List PV} {M : Mem} {Q : Option PV → Mem → Prop} {x : Int32} : WP d 0 11 [l0, l1, l2, l3] (vi x :: st) M Q = WP d 0 12 [l0, l1, l2, l3] (vi x :: vi x :: st) M Q := w1 mC_0 d0_11 rfl rfl
theorem d0_12 : decode cL_law 12 = .ok (.invokespecial 12, 3) := by decide +kernel
theorem k0_12 {d : Nat} {l0 l1 l2 l3 : Option PV} {st : List PV} {M : Mem} {Q : Option PV → Mem → Prop} {r : Nat} (hl : szL st ≤ 8) (hk : mK M r < 13) : WP (d + 1) 0 12 [l0, l1, l2, l3] (vr r :: st) M Q = WP d 144 0 [some (vr r), none] [] M (fun v M' => WP (d + 1) 0 15 [l0, l1, l2, l3] (psh v st) M' Q) := w_callI mC_0 d0_12 rfl rfl (Nat.le_of_ble_eq_true rfl) (by decide) rfl hl hk
theorem d0_15 : decode cL_law 15 = .ok (.astore_n 2, 1) := by decide +kernel
theorem k0_15 {d : Nat} {l0 l1 l2 l3 : Option PV} {st : List PV} {M : Mem} {Q : Option PV → Mem → Prop} {x : Nat} : WP d 0 15 [l0, l1, l2, l3] (vr x :: st) M Q = WP d 0 16 [l0, l1, some (vr x), l3] (st) M Q := w1 mC_0 d0_15 rfl rfl
theorem d0_16 : decode cL_law 16 = .ok (.iconst 0, 1) := by decide +kernel
theorem k0_16 {d : Nat} {l0 l1 l2 l3 : Option PV} {st : List PV} {M : Mem} {Q : Option PV → Mem → Prop} : WP d 0 16 [l0, l1, l2, l3] (st) M Q = WP d 0 17 [l0, l1, l2, l3] (vi 0 :: st) M Q := w_iconst mC_0 d0_16 (by decide)
theorem d0_17 : decode cL_law 17 = .ok (.istore_n 3, 1) := by decide +kernel
theorem k0_17 {d : Nat} {l0 l1 l2 l3 : Option PV} {st : List PV} {M : Mem} {Q : Option PV → Mem → Prop} {x : Int32} : WP d 0 17 [l0, l1, l2, l3] (vi x :: st) M Q = WP d 0 18 [l0, l1, l2, some (vi x)] (st) M Q := w1 mC_0 d0_17 rfl rfl
theorem d0_18 : decode cL_law 18 = .ok (.iload_n 3, 1) := by decide +kernel
theorem k0_18 {d : Nat} {x : Int32} {l0 l1 l2 : Option PV} {st : List PV} {M : Mem} {Q : Option PV → Mem → Prop} : WP d 0 18 [l0, l1, l2, some (vi x)] (st) M Q = WP d 0 19 [l0, l1, l2, some (vi x)] (vi x :: st) M Q := w1 mC_0 d0_18 rfl rfl
theorem d0_19 : decode cL_law 19 = .ok (.aload_n 0, 1) := by decide +kernel
theorem k0_19 {d x : Nat} {l1 l2 l3 : Option PV} {st : List PV} {M : Mem} {Q : Option PV → Mem → Prop} : WP d 0 19 [some (vr x), l1, l2, l3] (st) M Q = WP d 0 20 [some (vr x), l1, l2, l3] (vr x :: st) M Q := w1 mC_0 d0_19 rfl rfl
theorem d0_20 : decode cL_law 20 = .ok (.arraylength, 1) := by decide +kernel
theorem k0_20 {d : Nat} {l0 l1 l2 l3 : Option PV} {st : List PV} {M : Mem} {Q : Option PV → Mem → Prop} {r : Nat} (hk : 13 ≤ mK M r ∧ mK M r ≤ 17) : WP d 0 20 [l0, l1, l2, l3] (vr r :: st) M Q = WP d 0 21 [l0, l1, l2, l3] (vi (Int32.ofNat (mN M r)) :: st) M Q := w_alen mC_0 d0_20 hk (fun _ => rfl)
theorem d0_21 : decode cL_law 21 = .ok (.bipush 6, 2) := by decide +kernel
theorem k0_21 {d : Nat} {l0 l1 l2 l3 : Option PV} {st : List PV} {M : Mem} {Q : Option PV → Mem → Prop} : WP d 0 21 [l0, l1, l2, l3] (st) M Q = WP d 0 23 [l0, l1, l2, l3] (vi 6 :: st) M Q := w_bipush mC_0 d0_21 (by decide)
theorem d0_23 : decode cL_law 23 = .ok (.isub, 1) := by decide +kernel
theorem k0_23 {d : Nat} {l0 l1 l2 l3 : Option PV} {st : List PV} {M : Mem} {Q : Option PV → Mem → Prop} {x y : Int32} : WP d 0 23 [l0, l1, l2, l3] (vi y :: vi x :: st) M Q = WP d 0 24 [l0, l1, l2, l3] (vi (x - y) :: st) M Q := w1 mC_0 d0_23 rfl rfl
theorem d0_24 : decode cL_law 24 = .ok (.if_icmp .gt 1478, 3) := by decide +kernel
theorem k0_24 {d : Nat} {l0 l1 l2 l3 : Option PV} {st : List PV} {M : Mem} {Q : Option PV → Mem → Prop} {x y : Int32} : WP d 0 24 [l0, l1, l2, l3] (vi y :: vi x :: st) M Q = (if y < x then WP d 0 1502 [l0, l1, l2, l3] (st) M Q else WP d 0 27 [l0, l1, l2, l3] (st) M Q) := w_ic_gt mC_0 d0_24 (by decide)
theorem d0_27 : decode cL_law 27 = .ok (.aload_n 0, 1) := by decide +kernel
theorem k0_27 {d x : Nat} {l1 l2 l3 : Option PV} {st : List PV} {M : Mem} {Q : Option PV → Mem → Prop} : WP d 0 27 [some (vr x), l1, l2, l3] (st) M Q = WP d 0 28 [some (vr x), l1, l2, l3] (vr x :: st) M Q := w1 mC_0 d0_27 rfl rfl
theorem d0_28 : decode cL_law 28 = .ok (.iload_n 3, 1) := by decide +kernel
theorem k0_28 {d : Nat} {x : Int32} {l0 l1 l2 : Option PV} {st : List PV} {M : Mem} {Q : Option PV → Mem → Prop} : WP d 0 28 [l0, l1, l2, some (vi x)] (st) M Q = WP d 0 29 [l0, l1, l2, some (vi x)] (vi x :: st) M Q := w1 mC_0 d0_28 rfl rfl
theorem d0_29 : decode cL_law 29 = .ok (.iaload, 1) := by decide +kernel
theorem k0_29 {d : Nat} {l0 l1 l2 l3 : Option PV} {st : List PV} {M : Mem} {Q : Option PV → Mem → Prop} {r : Nat} {j : Int32} (hk : mK M r = 13) (hj : inb j (mN M r)) : WP d 0 29 [l0, l1, l2, l3] (vi j :: vr r :: st) M Q = WP d 0 30 [l0, l1, l2, l3] (vi (mI M r (ix j)) :: st) M Q := w_sld mC_0 d0_29 hk hj
theorem d0_30 : decode cL_law 30 = .ok (.bipush 63, 2) := by decide +kernel
theorem k0_30 {d : Nat} {l0 l1 l2 l3 : Option PV} {st : List PV} {M : Mem} {Q : Option PV → Mem → Prop} : WP d 0 30 [l0, l1, l2, l3] (st) M Q = WP d 0 32 [l0, l1, l2, l3] (vi 63 :: st) M Q := w_bipush mC_0 d0_30 (by decide)
theorem d0_32 : decode cL_law 32 = .ok (.iand, 1) := by decide +kernel
theorem k0_32 {d : Nat} {l0 l1 l2 l3 : Option PV} {st : List PV} {M : Mem} {Q : Option PV → Mem → Prop} {x y : Int32} : WP d 0 32 [l0, l1, l2, l3] (vi y :: vi x :: st) M Q = WP d 0 33 [l0, l1, l2, l3] (vi (x &&& y) :: st) M Q := w1 mC_0 d0_32 rfl rfl
theorem d0_33 : decode cL_law 33 = .ok (.tableswitch 1463 0 40 #[179, 202, 235, 278, 321, 354, 377, 390, 413, 456, 489, 512, 555, 598, 631, 664, 697, 730, 763, 806, 819, 842, 885, 928, 941, 974, 997, 1020, 1033, 1046, 1059, 1072, 1095, 1138, 1161, 1194, 1237, 1310, 1344, 1407, 1440], 179) := by decide +kernel
theorem k0_33c0 {d : Nat} {l0 l1 l2 l3 : Option PV} {st : List PV} {M : Mem} {Q : Option PV → Mem → Prop} : WP d 0 33 [l0, l1, l2, l3] (vi 0 :: st) M Q = WP d 0 212 [l0, l1, l2, l3] (st) M Q := w_sw mC_0 d0_33 (by decide +kernel)
theorem k0_33c1 {d : Nat} {l0 l1 l2 l3 : Option PV} {st : List PV} {M : Mem} {Q : Option PV → Mem → Prop} : WP d 0 33 [l0, l1, l2, l3] (vi 1 :: st) M Q = WP d 0 235 [l0, l1, l2, l3] (st) M Q := w_sw mC_0 d0_33 (by decide +kernel)
theorem k0_33c2 {d : Nat} {l0 l1 l2 l3 : Option PV} {st : List PV} {M : Mem} {Q : Option PV → Mem → Prop} : WP d 0 33 [l0, l1, l2, l3] (vi 2 :: st) M Q = WP d 0 268 [l0, l1, l2, l3] (st) M Q := w_sw mC_0 d0_33 (by decide +kernel)
theorem k0_33c3 {d : Nat} {l0 l1 l2 l3 : Option PV} {st : List PV} {M : Mem} {Q : Option PV → Mem → Prop} : WP d 0 33 [l0, l1, l2, l3] (vi 3 :: st) M Q = WP d 0 311 [l0, l1, l2, l3] (st) M Q := w_sw mC_0 d0_33 (by decide +kernel)
theorem k0_33c4 {d : Nat} {l0 l1 l2 l3 : Option PV} {st : List PV} {M : Mem} {Q : Option PV → Mem → Prop} : WP d 0 33 [l0, l1, l2, l3] (vi 4 :: st) M Q = WP d 0 354 [l0, l1, l2, l3] (st) M Q := w_sw mC_0 d0_33 (by decide +kernel)
theorem k0_33c5 {d : Nat} {l0 l1 l2 l3 : Option PV} {st : List PV} {M : Mem} {Q : Option PV → Mem → Prop} : WP d 0 33 [l0, l1, l2, l3] (vi 5 :: st) M Q = WP d 0 387 [l0, l1, l2, l3] (st) M Q := w_sw mC_0 d0_33 (by decide +kernel)
theorem k0_33c6 {d : Nat} {l0 l1 l2 l3 : Option PV} {st : List PV} {M : Mem} {Q : Option PV → Mem → Prop} : WP d 0 33 [l0, l1, l2, l3] (vi 6 :: st) M Q = WP d 0 410 [l0, l1, l2, l3] (st) M Q := w_sw mC_0 d0_33 (by decide +kernel)
theorem k0_33c7 {d : Nat} {l0 l1 l2 l3 : Option PV} {st : List PV} {M : Mem} {Q : Option PV → Mem → Prop} : WP d 0 33 [l0, l1, l2, l3] (vi 7 :: st) M Q = WP d 0 423 [l0, l1, l2, l3] (st) M Q := w_sw mC_0 d0_33 (by decide +kernel)
theorem k0_33c8 {d : Nat} {l0 l1 l2 l3 : Option PV} {st : List PV} {M : Mem} {Q : Option PV → Mem → Prop} : WP d 0 33 [l0, l1, l2, l3] (vi 8 :: st) M Q = WP d 0 446 [l0, l1, l2, l3] (st) M Q := w_sw mC_0 d0_33 (by decide +kernel)
theorem k0_33c9 {d : Nat} {l0 l1 l2 l3 : Option PV} {st : List PV} {M : Mem} {Q : Option PV → Mem → Prop} : WP d 0 33 [l0, l1, l2, l3] (vi 9 :: st) M Q = WP d 0 489 [l0, l1, l2, l3] (st) M Q := w_sw mC_0 d0_33 (by decide +kernel)
theorem k0_33c10 {d : Nat} {l0 l1 l2 l3 : Option PV} {st : List PV} {M : Mem} {Q : Option PV → Mem → Prop} : WP d 0 33 [l0, l1, l2, l3] (vi 10 :: st) M Q = WP d 0 522 [l0, l1, l2, l3] (st) M Q := w_sw mC_0 d0_33 (by decide +kernel)
theorem k0_33c11 {d : Nat} {l0 l1 l2 l3 : Option PV} {st : List PV} {M : Mem} {Q : Option PV → Mem → Prop} : WP d 0 33 [l0, l1, l2, l3] (vi 11 :: st) M Q = WP d 0 545 [l0, l1, l2, l3] (st) M Q := w_sw mC_0 d0_33 (by decide +kernel)
theorem k0_33c12 {d : Nat} {l0 l1 l2 l3 : Option PV} {st : List PV} {M : Mem} {Q : Option PV → Mem → Prop} : WP d 0 33 [l0, l1, l2, l3] (vi 12 :: st) M Q = WP d 0 588 [l0, l1, l2, l3] (st) M Q := w_sw mC_0 d0_33 (by decide +kernel)
theorem k0_33c13 {d : Nat} {l0 l1 l2 l3 : Option PV} {st : List PV} {M : Mem} {Q : Option PV → Mem → Prop} : WP d 0 33 [l0, l1, l2, l3] (vi 13 :: st) M Q = WP d 0 631 [l0, l1, l2, l3] (st) M Q := w_sw mC_0 d0_33 (by decide +kernel)
theorem k0_33c14 {d : Nat} {l0 l1 l2 l3 : Option PV} {st : List PV} {M : Mem} {Q : Option PV → Mem → Prop} : WP d 0 33 [l0, l1, l2, l3] (vi 14 :: st) M Q = WP d 0 664 [l0, l1, l2, l3] (st) M Q := w_sw mC_0 d0_33 (by decide +kernel)
theorem k0_33c15 {d : Nat} {l0 l1 l2 l3 : Option PV} {st : List PV} {M : Mem} {Q : Option PV → Mem → Prop} : WP d 0 33 [l0, l1, l2, l3] (vi 15 :: st) M Q = WP d 0 697 [l0, l1, l2, l3] (st) M Q := w_sw mC_0 d0_33 (by decide +kernel)
theorem k0_33c16 {d : Nat} {l0 l1 l2 l3 : Option PV} {st : List PV} {M : Mem} {Q : Option PV → Mem → Prop} : WP d 0 33 [l0, l1, l2, l3] (vi 16 :: st) M Q = WP d 0 730 [l0, l1, l2, l3] (st) M Q := w_sw mC_0 d0_33 (by decide +kernel)
theorem k0_33c17 {d : Nat} {l0 l1 l2 l3 : Option PV} {st : List PV} {M : Mem} {Q : Option PV → Mem → Prop} : WP d 0 33 [l0, l1, l2, l3] (vi 17 :: st) M Q = WP d 0 763 [l0, l1, l2, l3] (st) M Q := w_sw mC_0 d0_33 (by decide +kernel)
theorem k0_33c18 {d : Nat} {l0 l1 l2 l3 : Option PV} {st : List PV} {M : Mem} {Q : Option PV → Mem → Prop} : WP d 0 33 [l0, l1, l2, l3] (vi 18 :: st) M Q = WP d 0 796 [l0, l1, l2, l3] (st) M Q := w_sw mC_0 d0_33 (by decide +kernel)
theorem k0_33c19 {d : Nat} {l0 l1 l2 l3 : Option PV} {st : List PV} {M : Mem} {Q : Option PV → Mem → Prop} : WP d 0 33 [l0, l1, l2, l3] (vi 19 :: st) M Q = WP d 0 839 [l0, l1, l2, l3] (st) M Q := w_sw mC_0 d0_33 (by decide +kernel)
theorem k0_33c20 {d : Nat} {l0 l1 l2 l3 : Option PV} {st : List PV} {M : Mem} {Q : Option PV → Mem → Prop} : WP d 0 33 [l0, l1, l2, l3] (vi 20 :: st) M Q = WP d 0 852 [l0, l1, l2, l3] (st) M Q := w_sw mC_0 d0_33 (by decide +kernel)
theorem k0_33c21 {d : Nat} {l0 l1 l2 l3 : Option PV} {st : List PV} {M : Mem} {Q : Option PV → Mem → Prop} : WP d 0 33 [l0, l1, l2, l3] (vi 21 :: st) M Q = WP d 0 875 [l0, l1, l2, l3] (st) M Q := w_sw mC_0 d0_33 (by decide +kernel)
theorem k0_33c22 {d : Nat} {l0 l1 l2 l3 : Option PV} {st : List PV} {M : Mem} {Q : Option PV → Mem → Prop} : WP d 0 33 [l0, l1, l2, l3] (vi 22 :: st) M Q = WP d 0 918 [l0, l1, l2, l3] (st) M Q := w_sw mC_0 d0_33 (by decide +kernel)
theorem k0_33c23 {d : Nat} {l0 l1 l2 l3 : Option PV} {st : List PV} {M : Mem} {Q : Option PV → Mem → Prop} : WP d 0 33 [l0, l1, l2, l3] (vi 23 :: st) M Q = WP d 0 961 [l0, l1, l2, l3] (st) M Q := w_sw mC_0 d0_33 (by decide +kernel)
theorem k0_33c24 {d : Nat} {l0 l1 l2 l3 : Option PV} {st : List PV} {M : Mem} {Q : Option PV → Mem → Prop} : WP d 0 33 [l0, l1, l2, l3] (vi 24 :: st) M Q = WP d 0 974 [l0, l1, l2, l3] (st) M Q := w_sw mC_0 d0_33 (by decide +kernel)
theorem k0_33c25 {d : Nat} {l0 l1 l2 l3 : Option PV} {st : List PV} {M : Mem} {Q : Option PV → Mem → Prop} : WP d 0 33 [l0, l1, l2, l3] (vi 25 :: st) M Q = WP d 0 1007 [l0, l1, l2, l3] (st) M Q := w_sw mC_0 d0_33 (by decide +kernel)
theorem k0_33c26 {d : Nat} {l0 l1 l2 l3 : Option PV} {st : List PV} {M : Mem} {Q : Option PV → Mem → Prop} : WP d 0 33 [l0, l1, l2, l3] (vi 26 :: st) M Q = WP d 0 1030 [l0, l1, l2, l3] (st) M Q := w_sw mC_0 d0_33 (by decide +kernel)
theorem k0_33c27 {d : Nat} {l0 l1 l2 l3 : Option PV} {st : List PV} {M : Mem} {Q : Option PV → Mem → Prop} : WP d 0 33 [l0, l1, l2, l3] (vi 27 :: st) M Q = WP d 0 1053 [l0, l1, l2, l3] (st) M Q := w_sw mC_0 d0_33 (by decide +kernel)
theorem k0_33c28 {d : Nat} {l0 l1 l2 l3 : Option PV} {st : List PV} {M : Mem} {Q : Option PV → Mem → Prop} : WP d 0 33 [l0, l1, l2, l3] (vi 28 :: st) M Q = WP d 0 1066 [l0, l1, l2, l3] (st) M Q := w_sw mC_0 d0_33 (by decide +kernel)
theorem k0_33c29 {d : Nat} {l0 l1 l2 l3 : Option PV} {st : List PV} {M : Mem} {Q : Option PV → Mem → Prop} : WP d 0 33 [l0, l1, l2, l3] (vi 29 :: st) M Q = WP d 0 1079 [l0, l1, l2, l3] (st) M Q := w_sw mC_0 d0_33 (by decide +kernel)
theorem k0_33c30 {d : Nat} {l0 l1 l2 l3 : Option PV} {st : List PV} {M : Mem} {Q : Option PV → Mem → Prop} : WP d 0 33 [l0, l1, l2, l3] (vi 30 :: st) M Q = WP d 0 1092 [l0, l1, l2, l3] (st) M Q := w_sw mC_0 d0_33 (by decide +kernel)
theorem k0_33c31 {d : Nat} {l0 l1 l2 l3 : Option PV} {st : List PV} {M : Mem} {Q : Option PV → Mem → Prop} : WP d 0 33 [l0, l1, l2, l3] (vi 31 :: st) M Q = WP d 0 1105 [l0, l1, l2, l3] (st) M Q := w_sw mC_0 d0_33 (by decide +kernel)
theorem k0_33c32 {d : Nat} {l0 l1 l2 l3 : Option PV} {st : List PV} {M : Mem} {Q : Option PV → Mem → Prop} : WP d 0 33 [l0, l1, l2, l3] (vi 32 :: st) M Q = WP d 0 1128 [l0, l1, l2, l3] (st) M Q := w_sw mC_0 d0_33 (by decide +kernel)
theorem k0_33c33 {d : Nat} {l0 l1 l2 l3 : Option PV} {st : List PV} {M : Mem} {Q : Option PV → Mem → Prop} : WP d 0 33 [l0, l1, l2, l3] (vi 33 :: st) M Q = WP d 0 1171 [l0, l1, l2, l3] (st) M Q := w_sw mC_0 d0_33 (by decide +kernel)
theorem k0_33c34 {d : Nat} {l0 l1 l2 l3 : Option PV} {st : List PV} {M : Mem} {Q : Option PV → Mem → Prop} : WP d 0 33 [l0, l1, l2, l3] (vi 34 :: st) M Q = WP d 0 1194 [l0, l1, l2, l3] (st) M Q := w_sw mC_0 d0_33 (by decide +kernel)
theorem k0_33c35 {d : Nat} {l0 l1 l2 l3 : Option PV} {st : List PV} {M : Mem} {Q : Option PV → Mem → Prop} : WP d 0 33 [l0, l1, l2, l3] (vi 35 :: st) M Q = WP d 0 1227 [l0, l1, l2, l3] (st) M Q := w_sw mC_0 d0_33 (by decide +kernel)
theorem k0_33c36 {d : Nat} {l0 l1 l2 l3 : Option PV} {st : List PV} {M : Mem} {Q : Option PV → Mem → Prop} : WP d 0 33 [l0, l1, l2, l3] (vi 36 :: st) M Q = WP d 0 1270 [l0, l1, l2, l3] (st) M Q := w_sw mC_0 d0_33 (by decide +kernel)
theorem k0_33c37 {d : Nat} {l0 l1 l2 l3 : Option PV} {st : List PV} {M : Mem} {Q : Option PV → Mem → Prop} : WP d 0 33 [l0, l1, l2, l3] (vi 37 :: st) M Q = WP d 0 1343 [l0, l1, l2, l3] (st) M Q := w_sw mC_0 d0_33 (by decide +kernel)
theorem k0_33c38 {d : Nat} {l0 l1 l2 l3 : Option PV} {st : List PV} {M : Mem} {Q : Option PV → Mem → Prop} : WP d 0 33 [l0, l1, l2, l3] (vi 38 :: st) M Q = WP d 0 1377 [l0, l1, l2, l3] (st) M Q := w_sw mC_0 d0_33 (by decide +kernel)
theorem k0_33c39 {d : Nat} {l0 l1 l2 l3 : Option PV} {st : List PV} {M : Mem} {Q : Option PV → Mem → Prop} : WP d 0 33 [l0, l1, l2, l3] (vi 39 :: st) M Q = WP d 0 1440 [l0, l1, l2, l3] (st) M Q := w_sw mC_0 d0_33 (by decide +kernel)
theorem k0_33c40 {d : Nat} {l0 l1 l2 l3 : Option PV} {st : List PV} {M : Mem} {Q : Option PV → Mem → Prop} : WP d 0 33 [l0, l1, l2, l3] (vi 40 :: st) M Q = WP d 0 1473 [l0, l1, l2, l3] (st) M Q := w_sw mC_0 d0_33 (by decide +kernel)
theorem k0_33 {d : Nat} {l0 l1 l2 l3 : Option PV} {st : List PV} {M : Mem} {Q : Option PV → Mem → Prop} {x : Int32} (h : x.toInt < 0 ∨ 40 < x.toInt) : WP d 0 33 [l0, l1, l2, l3] (vi x :: st) M Q = WP d 0 1496 [l0, l1, l2, l3] (st) M Q := w_swd mC_0 d0_33 (by decide) h
theorem d0_212 : decode cL_law 212 = .ok (.aload_n 1, 1) := by decide +kernel
theorem k0_212 {d x : Nat} {l0 l2 l3 : Option PV} {st : List PV} {M : Mem} {Q : Option PV → Mem → Prop} : WP d 0 212 [l0, some (vr x), l2, l3] (st) M Q = WP d 0 213 [l0, some (vr x), l2, l3] (vr x :: st) M Q := w1 mC_0 d0_212 rfl rfl
theorem d0_213 : decode cL_law 213 = .ok (.aload_n 0, 1) := by decide +kernel
theorem k0_213 {d x : Nat} {l1 l2 l3 : Option PV} {st : List PV} {M : Mem} {Q : Option PV → Mem → Prop} : WP d 0 213 [some (vr x), l1, l2, l3] (st) M Q = WP d 0 214 [some (vr x), l1, l2, l3] (vr x :: st) M Q := w1 mC_0 d0_213 rfl rfl
theorem d0_214 : decode cL_law 214 = .ok (.iload_n 3, 1) := by decide +kernel
theorem k0_214 {d : Nat} {x : Int32} {l0 l1 l2 : Option PV} {st : List PV} {M : Mem} {Q : Option PV → Mem → Prop} : WP d 0 214 [l0, l1, l2, some (vi x)] (st) M Q = WP d 0 215 [l0, l1, l2, some (vi x)] (vi x :: st) M Q := w1 mC_0 d0_214 rfl rfl
theorem d0_215 : decode cL_law 215 = .ok (.iconst 1, 1) := by decide +kernel
theorem k0_215 {d : Nat} {l0 l1 l2 l3 : Option PV} {st : List PV} {M : Mem} {Q : Option PV → Mem → Prop} : WP d 0 215 [l0, l1, l2, l3] (st) M Q = WP d 0 216 [l0, l1, l2, l3] (vi 1 :: st) M Q := w_iconst mC_0 d0_215 (by decide)
theorem d0_216 : decode cL_law 216 = .ok (.iadd, 1) := by decide +kernel
theorem k0_216 {d : Nat} {l0 l1 l2 l3 : Option PV} {st : List PV} {M : Mem} {Q : Option PV → Mem → Prop} {x y : Int32} : WP d 0 216 [l0, l1, l2, l3] (vi y :: vi x :: st) M Q = WP d 0 217 [l0, l1, l2, l3] (vi (x + y) :: st) M Q := w1 mC_0 d0_216 rfl rfl
theorem d0_217 : decode cL_law 217 = .ok (.iaload, 1) := by decide +kernel
theorem k0_217 {d : Nat} {l0 l1 l2 l3 : Option PV} {st : List PV} {M : Mem} {Q : Option PV → Mem → Prop} {r : Nat} {j : Int32} (hk : mK M r = 13) (hj : inb j (mN M r)) : WP d 0 217 [l0, l1, l2, l3] (vi j :: vr r :: st) M Q = WP d 0 218 [l0, l1, l2, l3] (vi (mI M r (ix j)) :: st) M Q := w_sld mC_0 d0_217 hk hj
theorem d0_218 : decode cL_law 218 = .ok (.invokevirtual 13, 3) := by decide +kernel
theorem k0_218 {d : Nat} {l0 l1 l2 l3 : Option PV} {st : List PV} {M : Mem} {Q : Option PV → Mem → Prop} {a0 : Int32} {r : Nat} (hl : szL st ≤ 8) (hk : mK M r = 11) : WP (d + 1) 0 218 [l0, l1, l2, l3] (vi a0 :: vr r :: st) M Q = WP d 71 0 [some (vr r), some (vi a0)] [] M (fun v M' => WP (d + 1) 0 221 [l0, l1, l2, l3] (psh v st) M' Q) := w_callV mC_0 d0_218 (ci := 11) rfl rfl rfl (Nat.le_of_ble_eq_true rfl) (by decide) rfl hl hk
theorem d0_221 : decode cL_law 221 = .ok (.aload_n 2, 1) := by decide +kernel
theorem k0_221 {d x : Nat} {l0 l1 l3 : Option PV} {st : List PV} {M : Mem} {Q : Option PV → Mem → Prop} : WP d 0 221 [l0, l1, some (vr x), l3] (st) M Q = WP d 0 222 [l0, l1, some (vr x), l3] (vr x :: st) M Q := w1 mC_0 d0_221 rfl rfl
theorem d0_222 : decode cL_law 222 = .ok (.aload_n 0, 1) := by decide +kernel
theorem k0_222 {d x : Nat} {l1 l2 l3 : Option PV} {st : List PV} {M : Mem} {Q : Option PV → Mem → Prop} : WP d 0 222 [some (vr x), l1, l2, l3] (st) M Q = WP d 0 223 [some (vr x), l1, l2, l3] (vr x :: st) M Q := w1 mC_0 d0_222 rfl rfl
theorem d0_223 : decode cL_law 223 = .ok (.iload_n 3, 1) := by decide +kernel
theorem k0_223 {d : Nat} {x : Int32} {l0 l1 l2 : Option PV} {st : List PV} {M : Mem} {Q : Option PV → Mem → Prop} : WP d 0 223 [l0, l1, l2, some (vi x)] (st) M Q = WP d 0 224 [l0, l1, l2, some (vi x)] (vi x :: st) M Q := w1 mC_0 d0_223 rfl rfl
theorem d0_224 : decode cL_law 224 = .ok (.iconst 1, 1) := by decide +kernel
theorem k0_224 {d : Nat} {l0 l1 l2 l3 : Option PV} {st : List PV} {M : Mem} {Q : Option PV → Mem → Prop} : WP d 0 224 [l0, l1, l2, l3] (st) M Q = WP d 0 225 [l0, l1, l2, l3] (vi 1 :: st) M Q := w_iconst mC_0 d0_224 (by decide)
theorem d0_225 : decode cL_law 225 = .ok (.iadd, 1) := by decide +kernel
theorem k0_225 {d : Nat} {l0 l1 l2 l3 : Option PV} {st : List PV} {M : Mem} {Q : Option PV → Mem → Prop} {x y : Int32} : WP d 0 225 [l0, l1, l2, l3] (vi y :: vi x :: st) M Q = WP d 0 226 [l0, l1, l2, l3] (vi (x + y) :: st) M Q := w1 mC_0 d0_225 rfl rfl
theorem d0_226 : decode cL_law 226 = .ok (.iaload, 1) := by decide +kernel
theorem k0_226 {d : Nat} {l0 l1 l2 l3 : Option PV} {st : List PV} {M : Mem} {Q : Option PV → Mem → Prop} {r : Nat} {j : Int32} (hk : mK M r = 13) (hj : inb j (mN M r)) : WP d 0 226 [l0, l1, l2, l3] (vi j :: vr r :: st) M Q = WP d 0 227 [l0, l1, l2, l3] (vi (mI M r (ix j)) :: st) M Q := w_sld mC_0 d0_226 hk hj
theorem d0_227 : decode cL_law 227 = .ok (.invokevirtual 17, 3) := by decide +kernel
theorem k0_227 {d : Nat} {l0 l1 l2 l3 : Option PV} {st : List PV} {M : Mem} {Q : Option PV → Mem → Prop} {a0 : Int32} {r : Nat} (hl : szL st ≤ 8) (hk : mK M r = 12) : WP (d + 1) 0 227 [l0, l1, l2, l3] (vi a0 :: vr r :: st) M Q = WP d 150 0 [some (vr r), some (vi a0)] [] M (fun v M' => WP (d + 1) 0 230 [l0, l1, l2, l3] (psh v st) M' Q) := w_callV mC_0 d0_227 (ci := 12) rfl rfl rfl (Nat.le_of_ble_eq_true rfl) (by decide) rfl hl hk
theorem d0_230 : decode cL_law 230 = .ok (.if_icmp .eq 1266, 3) := by decide +kernel
theorem k0_230 {d : Nat} {l0 l1 l2 l3 : Option PV} {st : List PV} {M : Mem} {Q : Option PV → Mem → Prop} {x y : Int32} : WP d 0 230 [l0, l1, l2, l3] (vi y :: vi x :: st) M Q = (if x = y then WP d 0 1496 [l0, l1, l2, l3] (st) M Q else WP d 0 233 [l0, l1, l2, l3] (st) M Q) := w_ic_eq mC_0 d0_230 (by decide)
theorem d0_233 : decode cL_law 233 = .ok (.iconst 0, 1) := by decide +kernel
theorem k0_233 {d : Nat} {l0 l1 l2 l3 : Option PV} {st : List PV} {M : Mem} {Q : Option PV → Mem → Prop} : WP d 0 233 [l0, l1, l2, l3] (st) M Q = WP d 0 234 [l0, l1, l2, l3] (vi 0 :: st) M Q := w_iconst mC_0 d0_233 (by decide)
theorem d0_234 : decode cL_law 234 = .ok (.ireturn, 1) := by decide +kernel
theorem k0_234 {d : Nat} {l0 l1 l2 l3 : Option PV} {M : Mem} {Q : Option PV → Mem → Prop} {x : Int32} (hx : x = 0 ∨ x = 1) : WP d 0 234 [l0, l1, l2, l3] ([vi x]) M Q = Q (some (vi x)) M := w_zret mC_0 d0_234 rfl hx
theorem d0_235 : decode cL_law 235 = .ok (.aload_n 1, 1) := by decide +kernel
theorem k0_235 {d x : Nat} {l0 l2 l3 : Option PV} {st : List PV} {M : Mem} {Q : Option PV → Mem → Prop} : WP d 0 235 [l0, some (vr x), l2, l3] (st) M Q = WP d 0 236 [l0, some (vr x), l2, l3] (vr x :: st) M Q := w1 mC_0 d0_235 rfl rfl
theorem d0_236 : decode cL_law 236 = .ok (.aload_n 0, 1) := by decide +kernel
theorem k0_236 {d x : Nat} {l1 l2 l3 : Option PV} {st : List PV} {M : Mem} {Q : Option PV → Mem → Prop} : WP d 0 236 [some (vr x), l1, l2, l3] (st) M Q = WP d 0 237 [some (vr x), l1, l2, l3] (vr x :: st) M Q := w1 mC_0 d0_236 rfl rfl
theorem d0_237 : decode cL_law 237 = .ok (.iload_n 3, 1) := by decide +kernel
theorem k0_237 {d : Nat} {x : Int32} {l0 l1 l2 : Option PV} {st : List PV} {M : Mem} {Q : Option PV → Mem → Prop} : WP d 0 237 [l0, l1, l2, some (vi x)] (st) M Q = WP d 0 238 [l0, l1, l2, some (vi x)] (vi x :: st) M Q := w1 mC_0 d0_237 rfl rfl
theorem d0_238 : decode cL_law 238 = .ok (.iconst 1, 1) := by decide +kernel
theorem k0_238 {d : Nat} {l0 l1 l2 l3 : Option PV} {st : List PV} {M : Mem} {Q : Option PV → Mem → Prop} : WP d 0 238 [l0, l1, l2, l3] (st) M Q = WP d 0 239 [l0, l1, l2, l3] (vi 1 :: st) M Q := w_iconst mC_0 d0_238 (by decide)
theorem d0_239 : decode cL_law 239 = .ok (.iadd, 1) := by decide +kernel
theorem k0_239 {d : Nat} {l0 l1 l2 l3 : Option PV} {st : List PV} {M : Mem} {Q : Option PV → Mem → Prop} {x y : Int32} : WP d 0 239 [l0, l1, l2, l3] (vi y :: vi x :: st) M Q = WP d 0 240 [l0, l1, l2, l3] (vi (x + y) :: st) M Q := w1 mC_0 d0_239 rfl rfl
theorem d0_240 : decode cL_law 240 = .ok (.iaload, 1) := by decide +kernel
theorem k0_240 {d : Nat} {l0 l1 l2 l3 : Option PV} {st : List PV} {M : Mem} {Q : Option PV → Mem → Prop} {r : Nat} {j : Int32} (hk : mK M r = 13) (hj : inb j (mN M r)) : WP d 0 240 [l0, l1, l2, l3] (vi j :: vr r :: st) M Q = WP d 0 241 [l0, l1, l2, l3] (vi (mI M r (ix j)) :: st) M Q := w_sld mC_0 d0_240 hk hj
theorem d0_241 : decode cL_law 241 = .ok (.aload_n 0, 1) := by decide +kernel
theorem k0_241 {d x : Nat} {l1 l2 l3 : Option PV} {st : List PV} {M : Mem} {Q : Option PV → Mem → Prop} : WP d 0 241 [some (vr x), l1, l2, l3] (st) M Q = WP d 0 242 [some (vr x), l1, l2, l3] (vr x :: st) M Q := w1 mC_0 d0_241 rfl rfl
theorem d0_242 : decode cL_law 242 = .ok (.iload_n 3, 1) := by decide +kernel
theorem k0_242 {d : Nat} {x : Int32} {l0 l1 l2 : Option PV} {st : List PV} {M : Mem} {Q : Option PV → Mem → Prop} : WP d 0 242 [l0, l1, l2, some (vi x)] (st) M Q = WP d 0 243 [l0, l1, l2, some (vi x)] (vi x :: st) M Q := w1 mC_0 d0_242 rfl rfl
theorem d0_243 : decode cL_law 243 = .ok (.iconst 2, 1) := by decide +kernel
theorem k0_243 {d : Nat} {l0 l1 l2 l3 : Option PV} {st : List PV} {M : Mem} {Q : Option PV → Mem → Prop} : WP d 0 243 [l0, l1, l2, l3] (st) M Q = WP d 0 244 [l0, l1, l2, l3] (vi 2 :: st) M Q := w_iconst mC_0 d0_243 (by decide)
theorem d0_244 : decode cL_law 244 = .ok (.iadd, 1) := by decide +kernel
theorem k0_244 {d : Nat} {l0 l1 l2 l3 : Option PV} {st : List PV} {M : Mem} {Q : Option PV → Mem → Prop} {x y : Int32} : WP d 0 244 [l0, l1, l2, l3] (vi y :: vi x :: st) M Q = WP d 0 245 [l0, l1, l2, l3] (vi (x + y) :: st) M Q := w1 mC_0 d0_244 rfl rfl
theorem d0_245 : decode cL_law 245 = .ok (.iaload, 1) := by decide +kernel
theorem k0_245 {d : Nat} {l0 l1 l2 l3 : Option PV} {st : List PV} {M : Mem} {Q : Option PV → Mem → Prop} {r : Nat} {j : Int32} (hk : mK M r = 13) (hj : inb j (mN M r)) : WP d 0 245 [l0, l1, l2, l3] (vi j :: vr r :: st) M Q = WP d 0 246 [l0, l1, l2, l3] (vi (mI M r (ix j)) :: st) M Q := w_sld mC_0 d0_245 hk hj
theorem d0_246 : decode cL_law 246 = .ok (.invokevirtual 18, 3) := by decide +kernel
theorem k0_246 {d : Nat} {l0 l1 l2 l3 : Option PV} {st : List PV} {M : Mem} {Q : Option PV → Mem → Prop} {a0 a1 : Int32} {r : Nat} (hl : szL st ≤ 8) (hk : mK M r = 11) : WP (d + 1) 0 246 [l0, l1, l2, l3] (vi a1 :: vi a0 :: vr r :: st) M Q = WP d 72 0 [some (vr r), some (vi a0), some (vi a1), none] [] M (fun v M' => WP (d + 1) 0 249 [l0, l1, l2, l3] (psh v st) M' Q) := w_callV mC_0 d0_246 (ci := 11) rfl rfl rfl (Nat.le_of_ble_eq_true rfl) (by decide) rfl hl hk
theorem d0_249 : decode cL_law 249 = .ok (.aload_n 2, 1) := by decide +kernel
theorem k0_249 {d x : Nat} {l0 l1 l3 : Option PV} {st : List PV} {M : Mem} {Q : Option PV → Mem → Prop} : WP d 0 249 [l0, l1, some (vr x), l3] (st) M Q = WP d 0 250 [l0, l1, some (vr x), l3] (vr x :: st) M Q := w1 mC_0 d0_249 rfl rfl
theorem d0_250 : decode cL_law 250 = .ok (.aload_n 0, 1) := by decide +kernel
theorem k0_250 {d x : Nat} {l1 l2 l3 : Option PV} {st : List PV} {M : Mem} {Q : Option PV → Mem → Prop} : WP d 0 250 [some (vr x), l1, l2, l3] (st) M Q = WP d 0 251 [some (vr x), l1, l2, l3] (vr x :: st) M Q := w1 mC_0 d0_250 rfl rfl
theorem d0_251 : decode cL_law 251 = .ok (.iload_n 3, 1) := by decide +kernel
theorem k0_251 {d : Nat} {x : Int32} {l0 l1 l2 : Option PV} {st : List PV} {M : Mem} {Q : Option PV → Mem → Prop} : WP d 0 251 [l0, l1, l2, some (vi x)] (st) M Q = WP d 0 252 [l0, l1, l2, some (vi x)] (vi x :: st) M Q := w1 mC_0 d0_251 rfl rfl
theorem d0_252 : decode cL_law 252 = .ok (.iconst 1, 1) := by decide +kernel
theorem k0_252 {d : Nat} {l0 l1 l2 l3 : Option PV} {st : List PV} {M : Mem} {Q : Option PV → Mem → Prop} : WP d 0 252 [l0, l1, l2, l3] (st) M Q = WP d 0 253 [l0, l1, l2, l3] (vi 1 :: st) M Q := w_iconst mC_0 d0_252 (by decide)
theorem d0_253 : decode cL_law 253 = .ok (.iadd, 1) := by decide +kernel
theorem k0_253 {d : Nat} {l0 l1 l2 l3 : Option PV} {st : List PV} {M : Mem} {Q : Option PV → Mem → Prop} {x y : Int32} : WP d 0 253 [l0, l1, l2, l3] (vi y :: vi x :: st) M Q = WP d 0 254 [l0, l1, l2, l3] (vi (x + y) :: st) M Q := w1 mC_0 d0_253 rfl rfl
theorem d0_254 : decode cL_law 254 = .ok (.iaload, 1) := by decide +kernel
theorem k0_254 {d : Nat} {l0 l1 l2 l3 : Option PV} {st : List PV} {M : Mem} {Q : Option PV → Mem → Prop} {r : Nat} {j : Int32} (hk : mK M r = 13) (hj : inb j (mN M r)) : WP d 0 254 [l0, l1, l2, l3] (vi j :: vr r :: st) M Q = WP d 0 255 [l0, l1, l2, l3] (vi (mI M r (ix j)) :: st) M Q := w_sld mC_0 d0_254 hk hj
theorem d0_255 : decode cL_law 255 = .ok (.aload_n 0, 1) := by decide +kernel
theorem k0_255 {d x : Nat} {l1 l2 l3 : Option PV} {st : List PV} {M : Mem} {Q : Option PV → Mem → Prop} : WP d 0 255 [some (vr x), l1, l2, l3] (st) M Q = WP d 0 256 [some (vr x), l1, l2, l3] (vr x :: st) M Q := w1 mC_0 d0_255 rfl rfl
theorem d0_256 : decode cL_law 256 = .ok (.iload_n 3, 1) := by decide +kernel
theorem k0_256 {d : Nat} {x : Int32} {l0 l1 l2 : Option PV} {st : List PV} {M : Mem} {Q : Option PV → Mem → Prop} : WP d 0 256 [l0, l1, l2, some (vi x)] (st) M Q = WP d 0 257 [l0, l1, l2, some (vi x)] (vi x :: st) M Q := w1 mC_0 d0_256 rfl rfl
theorem d0_257 : decode cL_law 257 = .ok (.iconst 2, 1) := by decide +kernel
theorem k0_257 {d : Nat} {l0 l1 l2 l3 : Option PV} {st : List PV} {M : Mem} {Q : Option PV → Mem → Prop} : WP d 0 257 [l0, l1, l2, l3] (st) M Q = WP d 0 258 [l0, l1, l2, l3] (vi 2 :: st) M Q := w_iconst mC_0 d0_257 (by decide)
theorem d0_258 : decode cL_law 258 = .ok (.iadd, 1) := by decide +kernel
theorem k0_258 {d : Nat} {l0 l1 l2 l3 : Option PV} {st : List PV} {M : Mem} {Q : Option PV → Mem → Prop} {x y : Int32} : WP d 0 258 [l0, l1, l2, l3] (vi y :: vi x :: st) M Q = WP d 0 259 [l0, l1, l2, l3] (vi (x + y) :: st) M Q := w1 mC_0 d0_258 rfl rfl
theorem d0_259 : decode cL_law 259 = .ok (.iaload, 1) := by decide +kernel
theorem k0_259 {d : Nat} {l0 l1 l2 l3 : Option PV} {st : List PV} {M : Mem} {Q : Option PV → Mem → Prop} {r : Nat} {j : Int32} (hk : mK M r = 13) (hj : inb j (mN M r)) : WP d 0 259 [l0, l1, l2, l3] (vi j :: vr r :: st) M Q = WP d 0 260 [l0, l1, l2, l3] (vi (mI M r (ix j)) :: st) M Q := w_sld mC_0 d0_259 hk hj
theorem d0_260 : decode cL_law 260 = .ok (.invokevirtual 22, 3) := by decide +kernel
theorem k0_260 {d : Nat} {l0 l1 l2 l3 : Option PV} {st : List PV} {M : Mem} {Q : Option PV → Mem → Prop} {a0 a1 : Int32} {r : Nat} (hl : szL st ≤ 8) (hk : mK M r = 12) : WP (d + 1) 0 260 [l0, l1, l2, l3] (vi a1 :: vi a0 :: vr r :: st) M Q = WP d 152 0 [some (vr r), some (vi a0), some (vi a1)] [] M (fun v M' => WP (d + 1) 0 263 [l0, l1, l2, l3] (psh v st) M' Q) := w_callV mC_0 d0_260 (ci := 12) rfl rfl rfl (Nat.le_of_ble_eq_true rfl) (by decide) rfl hl hk
theorem d0_263 : decode cL_law 263 = .ok (.if_icmp .eq 1233, 3) := by decide +kernel
theorem k0_263 {d : Nat} {l0 l1 l2 l3 : Option PV} {st : List PV} {M : Mem} {Q : Option PV → Mem → Prop} {x y : Int32} : WP d 0 263 [l0, l1, l2, l3] (vi y :: vi x :: st) M Q = (if x = y then WP d 0 1496 [l0, l1, l2, l3] (st) M Q else WP d 0 266 [l0, l1, l2, l3] (st) M Q) := w_ic_eq mC_0 d0_263 (by decide)
theorem d0_266 : decode cL_law 266 = .ok (.iconst 0, 1) := by decide +kernel
theorem k0_266 {d : Nat} {l0 l1 l2 l3 : Option PV} {st : List PV} {M : Mem} {Q : Option PV → Mem → Prop} : WP d 0 266 [l0, l1, l2, l3] (st) M Q = WP d 0 267 [l0, l1, l2, l3] (vi 0 :: st) M Q := w_iconst mC_0 d0_266 (by decide)
theorem d0_267 : decode cL_law 267 = .ok (.ireturn, 1) := by decide +kernel
theorem k0_267 {d : Nat} {l0 l1 l2 l3 : Option PV} {M : Mem} {Q : Option PV → Mem → Prop} {x : Int32} (hx : x = 0 ∨ x = 1) : WP d 0 267 [l0, l1, l2, l3] ([vi x]) M Q = Q (some (vi x)) M := w_zret mC_0 d0_267 rfl hx
theorem d0_268 : decode cL_law 268 = .ok (.aload_n 1, 1) := by decide +kernel
theorem k0_268 {d x : Nat} {l0 l2 l3 : Option PV} {st : List PV} {M : Mem} {Q : Option PV → Mem → Prop} : WP d 0 268 [l0, some (vr x), l2, l3] (st) M Q = WP d 0 269 [l0, some (vr x), l2, l3] (vr x :: st) M Q := w1 mC_0 d0_268 rfl rfl
theorem d0_269 : decode cL_law 269 = .ok (.aload_n 0, 1) := by decide +kernel
theorem k0_269 {d x : Nat} {l1 l2 l3 : Option PV} {st : List PV} {M : Mem} {Q : Option PV → Mem → Prop} : WP d 0 269 [some (vr x), l1, l2, l3] (st) M Q = WP d 0 270 [some (vr x), l1, l2, l3] (vr x :: st) M Q := w1 mC_0 d0_269 rfl rfl
theorem d0_270 : decode cL_law 270 = .ok (.iload_n 3, 1) := by decide +kernel
theorem k0_270 {d : Nat} {x : Int32} {l0 l1 l2 : Option PV} {st : List PV} {M : Mem} {Q : Option PV → Mem → Prop} : WP d 0 270 [l0, l1, l2, some (vi x)] (st) M Q = WP d 0 271 [l0, l1, l2, some (vi x)] (vi x :: st) M Q := w1 mC_0 d0_270 rfl rfl
theorem d0_271 : decode cL_law 271 = .ok (.iconst 1, 1) := by decide +kernel
theorem k0_271 {d : Nat} {l0 l1 l2 l3 : Option PV} {st : List PV} {M : Mem} {Q : Option PV → Mem → Prop} : WP d 0 271 [l0, l1, l2, l3] (st) M Q = WP d 0 272 [l0, l1, l2, l3] (vi 1 :: st) M Q := w_iconst mC_0 d0_271 (by decide)
theorem d0_272 : decode cL_law 272 = .ok (.iadd, 1) := by decide +kernel
theorem k0_272 {d : Nat} {l0 l1 l2 l3 : Option PV} {st : List PV} {M : Mem} {Q : Option PV → Mem → Prop} {x y : Int32} : WP d 0 272 [l0, l1, l2, l3] (vi y :: vi x :: st) M Q = WP d 0 273 [l0, l1, l2, l3] (vi (x + y) :: st) M Q := w1 mC_0 d0_272 rfl rfl
theorem d0_273 : decode cL_law 273 = .ok (.iaload, 1) := by decide +kernel
theorem k0_273 {d : Nat} {l0 l1 l2 l3 : Option PV} {st : List PV} {M : Mem} {Q : Option PV → Mem → Prop} {r : Nat} {j : Int32} (hk : mK M r = 13) (hj : inb j (mN M r)) : WP d 0 273 [l0, l1, l2, l3] (vi j :: vr r :: st) M Q = WP d 0 274 [l0, l1, l2, l3] (vi (mI M r (ix j)) :: st) M Q := w_sld mC_0 d0_273 hk hj
theorem d0_274 : decode cL_law 274 = .ok (.aload_n 0, 1) := by decide +kernel
theorem k0_274 {d x : Nat} {l1 l2 l3 : Option PV} {st : List PV} {M : Mem} {Q : Option PV → Mem → Prop} : WP d 0 274 [some (vr x), l1, l2, l3] (st) M Q = WP d 0 275 [some (vr x), l1, l2, l3] (vr x :: st) M Q := w1 mC_0 d0_274 rfl rfl
theorem d0_275 : decode cL_law 275 = .ok (.iload_n 3, 1) := by decide +kernel
theorem k0_275 {d : Nat} {x : Int32} {l0 l1 l2 : Option PV} {st : List PV} {M : Mem} {Q : Option PV → Mem → Prop} : WP d 0 275 [l0, l1, l2, some (vi x)] (st) M Q = WP d 0 276 [l0, l1, l2, some (vi x)] (vi x :: st) M Q := w1 mC_0 d0_275 rfl rfl
theorem d0_276 : decode cL_law 276 = .ok (.iconst 2, 1) := by decide +kernel
theorem k0_276 {d : Nat} {l0 l1 l2 l3 : Option PV} {st : List PV} {M : Mem} {Q : Option PV → Mem → Prop} : WP d 0 276 [l0, l1, l2, l3] (st) M Q = WP d 0 277 [l0, l1, l2, l3] (vi 2 :: st) M Q := w_iconst mC_0 d0_276 (by decide)
theorem d0_277 : decode cL_law 277 = .ok (.iadd, 1) := by decide +kernel
theorem k0_277 {d : Nat} {l0 l1 l2 l3 : Option PV} {st : List PV} {M : Mem} {Q : Option PV → Mem → Prop} {x y : Int32} : WP d 0 277 [l0, l1, l2, l3] (vi y :: vi x :: st) M Q = WP d 0 278 [l0, l1, l2, l3] (vi (x + y) :: st) M Q := w1 mC_0 d0_277 rfl rfl
theorem d0_278 : decode cL_law 278 = .ok (.iaload, 1) := by decide +kernel
theorem k0_278 {d : Nat} {l0 l1 l2 l3 : Option PV} {st : List PV} {M : Mem} {Q : Option PV → Mem → Prop} {r : Nat} {j : Int32} (hk : mK M r = 13) (hj : inb j (mN M r)) : WP d 0 278 [l0, l1, l2, l3] (vi j :: vr r :: st) M Q = WP d 0 279 [l0, l1, l2, l3] (vi (mI M r (ix j)) :: st) M Q := w_sld mC_0 d0_278 hk hj
theorem d0_279 : decode cL_law 279 = .ok (.aload_n 0, 1) := by decide +kernel
theorem k0_279 {d x : Nat} {l1 l2 l3 : Option PV} {st : List PV} {M : Mem} {Q : Option PV → Mem → Prop} : WP d 0 279 [some (vr x), l1, l2, l3] (st) M Q = WP d 0 280 [some (vr x), l1, l2, l3] (vr x :: st) M Q := w1 mC_0 d0_279 rfl rfl
theorem d0_280 : decode cL_law 280 = .ok (.iload_n 3, 1) := by decide +kernel
theorem k0_280 {d : Nat} {x : Int32} {l0 l1 l2 : Option PV} {st : List PV} {M : Mem} {Q : Option PV → Mem → Prop} : WP d 0 280 [l0, l1, l2, some (vi x)] (st) M Q = WP d 0 281 [l0, l1, l2, some (vi x)] (vi x :: st) M Q := w1 mC_0 d0_280 rfl rfl
theorem d0_281 : decode cL_law 281 = .ok (.iconst 3, 1) := by decide +kernel
theorem k0_281 {d : Nat} {l0 l1 l2 l3 : Option PV} {st : List PV} {M : Mem} {Q : Option PV → Mem → Prop} : WP d 0 281 [l0, l1, l2, l3] (st) M Q = WP d 0 282 [l0, l1, l2, l3] (vi 3 :: st) M Q := w_iconst mC_0 d0_281 (by decide)
theorem d0_282 : decode cL_law 282 = .ok (.iadd, 1) := by decide +kernel
theorem k0_282 {d : Nat} {l0 l1 l2 l3 : Option PV} {st : List PV} {M : Mem} {Q : Option PV → Mem → Prop} {x y : Int32} : WP d 0 282 [l0, l1, l2, l3] (vi y :: vi x :: st) M Q = WP d 0 283 [l0, l1, l2, l3] (vi (x + y) :: st) M Q := w1 mC_0 d0_282 rfl rfl
theorem d0_283 : decode cL_law 283 = .ok (.iaload, 1) := by decide +kernel
theorem k0_283 {d : Nat} {l0 l1 l2 l3 : Option PV} {st : List PV} {M : Mem} {Q : Option PV → Mem → Prop} {r : Nat} {j : Int32} (hk : mK M r = 13) (hj : inb j (mN M r)) : WP d 0 283 [l0, l1, l2, l3] (vi j :: vr r :: st) M Q = WP d 0 284 [l0, l1, l2, l3] (vi (mI M r (ix j)) :: st) M Q := w_sld mC_0 d0_283 hk hj
theorem d0_284 : decode cL_law 284 = .ok (.invokevirtual 23, 3) := by decide +kernel
theorem k0_284 {d : Nat} {l0 l1 l2 l3 : Option PV} {st : List PV} {M : Mem} {Q : Option PV → Mem → Prop} {a0 a1 a2 : Int32} {r : Nat} (hl : szL st ≤ 8) (hk : mK M r = 11) : WP (d + 1) 0 284 [l0, l1, l2, l3] (vi a2 :: vi a1 :: vi a0 :: vr r :: st) M Q = WP d 73 0 [some (vr r), some (vi a0), some (vi a1), some (vi a2), none, none, none] [] M (fun v M' => WP (d + 1) 0 287 [l0, l1, l2, l3] (psh v st) M' Q) := w_callV mC_0 d0_284 (ci := 11) rfl rfl rfl (Nat.le_of_ble_eq_true rfl) (by decide) rfl hl hk
theorem d0_287 : decode cL_law 287 = .ok (.aload_n 2, 1) := by decide +kernel
theorem k0_287 {d x : Nat} {l0 l1 l3 : Option PV} {st : List PV} {M : Mem} {Q : Option PV → Mem → Prop} : WP d 0 287 [l0, l1, some (vr x), l3] (st) M Q = WP d 0 288 [l0, l1, some (vr x), l3] (vr x :: st) M Q := w1 mC_0 d0_287 rfl rfl
theorem d0_288 : decode cL_law 288 = .ok (.aload_n 0, 1) := by decide +kernel
theorem k0_288 {d x : Nat} {l1 l2 l3 : Option PV} {st : List PV} {M : Mem} {Q : Option PV → Mem → Prop} : WP d 0 288 [some (vr x), l1, l2, l3] (st) M Q = WP d 0 289 [some (vr x), l1, l2, l3] (vr x :: st) M Q := w1 mC_0 d0_288 rfl rfl
theorem d0_289 : decode cL_law 289 = .ok (.iload_n 3, 1) := by decide +kernel
theorem k0_289 {d : Nat} {x : Int32} {l0 l1 l2 : Option PV} {st : List PV} {M : Mem} {Q : Option PV → Mem → Prop} : WP d 0 289 [l0, l1, l2, some (vi x)] (st) M Q = WP d 0 290 [l0, l1, l2, some (vi x)] (vi x :: st) M Q := w1 mC_0 d0_289 rfl rfl
theorem d0_290 : decode cL_law 290 = .ok (.iconst 1, 1) := by decide +kernel
theorem k0_290 {d : Nat} {l0 l1 l2 l3 : Option PV} {st : List PV} {M : Mem} {Q : Option PV → Mem → Prop} : WP d 0 290 [l0, l1, l2, l3] (st) M Q = WP d 0 291 [l0, l1, l2, l3] (vi 1 :: st) M Q := w_iconst mC_0 d0_290 (by decide)
theorem d0_291 : decode cL_law 291 = .ok (.iadd, 1) := by decide +kernel
theorem k0_291 {d : Nat} {l0 l1 l2 l3 : Option PV} {st : List PV} {M : Mem} {Q : Option PV → Mem → Prop} {x y : Int32} : WP d 0 291 [l0, l1, l2, l3] (vi y :: vi x :: st) M Q = WP d 0 292 [l0, l1, l2, l3] (vi (x + y) :: st) M Q := w1 mC_0 d0_291 rfl rfl
theorem d0_292 : decode cL_law 292 = .ok (.iaload, 1) := by decide +kernel
theorem k0_292 {d : Nat} {l0 l1 l2 l3 : Option PV} {st : List PV} {M : Mem} {Q : Option PV → Mem → Prop} {r : Nat} {j : Int32} (hk : mK M r = 13) (hj : inb j (mN M r)) : WP d 0 292 [l0, l1, l2, l3] (vi j :: vr r :: st) M Q = WP d 0 293 [l0, l1, l2, l3] (vi (mI M r (ix j)) :: st) M Q := w_sld mC_0 d0_292 hk hj
theorem d0_293 : decode cL_law 293 = .ok (.aload_n 0, 1) := by decide +kernel
theorem k0_293 {d x : Nat} {l1 l2 l3 : Option PV} {st : List PV} {M : Mem} {Q : Option PV → Mem → Prop} : WP d 0 293 [some (vr x), l1, l2, l3] (st) M Q = WP d 0 294 [some (vr x), l1, l2, l3] (vr x :: st) M Q := w1 mC_0 d0_293 rfl rfl
theorem d0_294 : decode cL_law 294 = .ok (.iload_n 3, 1) := by decide +kernel
theorem k0_294 {d : Nat} {x : Int32} {l0 l1 l2 : Option PV} {st : List PV} {M : Mem} {Q : Option PV → Mem → Prop} : WP d 0 294 [l0, l1, l2, some (vi x)] (st) M Q = WP d 0 295 [l0, l1, l2, some (vi x)] (vi x :: st) M Q := w1 mC_0 d0_294 rfl rfl
theorem d0_295 : decode cL_law 295 = .ok (.iconst 2, 1) := by decide +kernel
theorem k0_295 {d : Nat} {l0 l1 l2 l3 : Option PV} {st : List PV} {M : Mem} {Q : Option PV → Mem → Prop} : WP d 0 295 [l0, l1, l2, l3] (st) M Q = WP d 0 296 [l0, l1, l2, l3] (vi 2 :: st) M Q := w_iconst mC_0 d0_295 (by decide)
theorem d0_296 : decode cL_law 296 = .ok (.iadd, 1) := by decide +kernel
theorem k0_296 {d : Nat} {l0 l1 l2 l3 : Option PV} {st : List PV} {M : Mem} {Q : Option PV → Mem → Prop} {x y : Int32} : WP d 0 296 [l0, l1, l2, l3] (vi y :: vi x :: st) M Q = WP d 0 297 [l0, l1, l2, l3] (vi (x + y) :: st) M Q := w1 mC_0 d0_296 rfl rfl
theorem d0_297 : decode cL_law 297 = .ok (.iaload, 1) := by decide +kernel
theorem k0_297 {d : Nat} {l0 l1 l2 l3 : Option PV} {st : List PV} {M : Mem} {Q : Option PV → Mem → Prop} {r : Nat} {j : Int32} (hk : mK M r = 13) (hj : inb j (mN M r)) : WP d 0 297 [l0, l1, l2, l3] (vi j :: vr r :: st) M Q = WP d 0 298 [l0, l1, l2, l3] (vi (mI M r (ix j)) :: st) M Q := w_sld mC_0 d0_297 hk hj
theorem d0_298 : decode cL_law 298 = .ok (.aload_n 0, 1) := by decide +kernel
theorem k0_298 {d x : Nat} {l1 l2 l3 : Option PV} {st : List PV} {M : Mem} {Q : Option PV → Mem → Prop} : WP d 0 298 [some (vr x), l1, l2, l3] (st) M Q = WP d 0 299 [some (vr x), l1, l2, l3] (vr x :: st) M Q := w1 mC_0 d0_298 rfl rfl
theorem d0_299 : decode cL_law 299 = .ok (.iload_n 3, 1) := by decide +kernel
theorem k0_299 {d : Nat} {x : Int32} {l0 l1 l2 : Option PV} {st : List PV} {M : Mem} {Q : Option PV → Mem → Prop} : WP d 0 299 [l0, l1, l2, some (vi x)] (st) M Q = WP d 0 300 [l0, l1, l2, some (vi x)] (vi x :: st) M Q := w1 mC_0 d0_299 rfl rfl
theorem d0_300 : decode cL_law 300 = .ok (.iconst 3, 1) := by decide +kernel
theorem k0_300 {d : Nat} {l0 l1 l2 l3 : Option PV} {st : List PV} {M : Mem} {Q : Option PV → Mem → Prop} : WP d 0 300 [l0, l1, l2, l3] (st) M Q = WP d 0 301 [l0, l1, l2, l3] (vi 3 :: st) M Q := w_iconst mC_0 d0_300 (by decide)
theorem d0_301 : decode cL_law 301 = .ok (.iadd, 1) := by decide +kernel
theorem k0_301 {d : Nat} {l0 l1 l2 l3 : Option PV} {st : List PV} {M : Mem} {Q : Option PV → Mem → Prop} {x y : Int32} : WP d 0 301 [l0, l1, l2, l3] (vi y :: vi x :: st) M Q = WP d 0 302 [l0, l1, l2, l3] (vi (x + y) :: st) M Q := w1 mC_0 d0_301 rfl rfl
theorem d0_302 : decode cL_law 302 = .ok (.iaload, 1) := by decide +kernel
theorem k0_302 {d : Nat} {l0 l1 l2 l3 : Option PV} {st : List PV} {M : Mem} {Q : Option PV → Mem → Prop} {r : Nat} {j : Int32} (hk : mK M r = 13) (hj : inb j (mN M r)) : WP d 0 302 [l0, l1, l2, l3] (vi j :: vr r :: st) M Q = WP d 0 303 [l0, l1, l2, l3] (vi (mI M r (ix j)) :: st) M Q := w_sld mC_0 d0_302 hk hj
theorem d0_303 : decode cL_law 303 = .ok (.invokevirtual 27, 3) := by decide +kernel
theorem k0_303 {d : Nat} {l0 l1 l2 l3 : Option PV} {st : List PV} {M : Mem} {Q : Option PV → Mem → Prop} {a0 a1 a2 : Int32} {r : Nat} (hl : szL st ≤ 8) (hk : mK M r = 12) : WP (d + 1) 0 303 [l0, l1, l2, l3] (vi a2 :: vi a1 :: vi a0 :: vr r :: st) M Q = WP d 154 0 [some (vr r), some (vi a0), some (vi a1), some (vi a2), none, none, none, none, none] [] M (fun v M' => WP (d + 1) 0 306 [l0, l1, l2, l3] (psh v st) M' Q) := w_callV mC_0 d0_303 (ci := 12) rfl rfl rfl (Nat.le_of_ble_eq_true rfl) (by decide) rfl hl hk
theorem d0_306 : decode cL_law 306 = .ok (.if_icmp .eq 1190, 3) := by decide +kernel
theorem k0_306 {d : Nat} {l0 l1 l2 l3 : Option PV} {st : List PV} {M : Mem} {Q : Option PV → Mem → Prop} {x y : Int32} : WP d 0 306 [l0, l1, l2, l3] (vi y :: vi x :: st) M Q = (if x = y then WP d 0 1496 [l0, l1, l2, l3] (st) M Q else WP d 0 309 [l0, l1, l2, l3] (st) M Q) := w_ic_eq mC_0 d0_306 (by decide)
theorem d0_309 : decode cL_law 309 = .ok (.iconst 0, 1) := by decide +kernel
theorem k0_309 {d : Nat} {l0 l1 l2 l3 : Option PV} {st : List PV} {M : Mem} {Q : Option PV → Mem → Prop} : WP d 0 309 [l0, l1, l2, l3] (st) M Q = WP d 0 310 [l0, l1, l2, l3] (vi 0 :: st) M Q := w_iconst mC_0 d0_309 (by decide)
theorem d0_310 : decode cL_law 310 = .ok (.ireturn, 1) := by decide +kernel
theorem k0_310 {d : Nat} {l0 l1 l2 l3 : Option PV} {M : Mem} {Q : Option PV → Mem → Prop} {x : Int32} (hx : x = 0 ∨ x = 1) : WP d 0 310 [l0, l1, l2, l3] ([vi x]) M Q = Q (some (vi x)) M := w_zret mC_0 d0_310 rfl hx
theorem d0_311 : decode cL_law 311 = .ok (.aload_n 1, 1) := by decide +kernel
theorem k0_311 {d x : Nat} {l0 l2 l3 : Option PV} {st : List PV} {M : Mem} {Q : Option PV → Mem → Prop} : WP d 0 311 [l0, some (vr x), l2, l3] (st) M Q = WP d 0 312 [l0, some (vr x), l2, l3] (vr x :: st) M Q := w1 mC_0 d0_311 rfl rfl
theorem d0_312 : decode cL_law 312 = .ok (.aload_n 0, 1) := by decide +kernel
theorem k0_312 {d x : Nat} {l1 l2 l3 : Option PV} {st : List PV} {M : Mem} {Q : Option PV → Mem → Prop} : WP d 0 312 [some (vr x), l1, l2, l3] (st) M Q = WP d 0 313 [some (vr x), l1, l2, l3] (vr x :: st) M Q := w1 mC_0 d0_312 rfl rfl
theorem d0_313 : decode cL_law 313 = .ok (.iload_n 3, 1) := by decide +kernel
theorem k0_313 {d : Nat} {x : Int32} {l0 l1 l2 : Option PV} {st : List PV} {M : Mem} {Q : Option PV → Mem → Prop} : WP d 0 313 [l0, l1, l2, some (vi x)] (st) M Q = WP d 0 314 [l0, l1, l2, some (vi x)] (vi x :: st) M Q := w1 mC_0 d0_313 rfl rfl
theorem d0_314 : decode cL_law 314 = .ok (.iconst 1, 1) := by decide +kernel
theorem k0_314 {d : Nat} {l0 l1 l2 l3 : Option PV} {st : List PV} {M : Mem} {Q : Option PV → Mem → Prop} : WP d 0 314 [l0, l1, l2, l3] (st) M Q = WP d 0 315 [l0, l1, l2, l3] (vi 1 :: st) M Q := w_iconst mC_0 d0_314 (by decide)
theorem d0_315 : decode cL_law 315 = .ok (.iadd, 1) := by decide +kernel
theorem k0_315 {d : Nat} {l0 l1 l2 l3 : Option PV} {st : List PV} {M : Mem} {Q : Option PV → Mem → Prop} {x y : Int32} : WP d 0 315 [l0, l1, l2, l3] (vi y :: vi x :: st) M Q = WP d 0 316 [l0, l1, l2, l3] (vi (x + y) :: st) M Q := w1 mC_0 d0_315 rfl rfl
theorem d0_316 : decode cL_law 316 = .ok (.iaload, 1) := by decide +kernel
theorem k0_316 {d : Nat} {l0 l1 l2 l3 : Option PV} {st : List PV} {M : Mem} {Q : Option PV → Mem → Prop} {r : Nat} {j : Int32} (hk : mK M r = 13) (hj : inb j (mN M r)) : WP d 0 316 [l0, l1, l2, l3] (vi j :: vr r :: st) M Q = WP d 0 317 [l0, l1, l2, l3] (vi (mI M r (ix j)) :: st) M Q := w_sld mC_0 d0_316 hk hj
theorem d0_317 : decode cL_law 317 = .ok (.aload_n 0, 1) := by decide +kernel
theorem k0_317 {d x : Nat} {l1 l2 l3 : Option PV} {st : List PV} {M : Mem} {Q : Option PV → Mem → Prop} : WP d 0 317 [some (vr x), l1, l2, l3] (st) M Q = WP d 0 318 [some (vr x), l1, l2, l3] (vr x :: st) M Q := w1 mC_0 d0_317 rfl rfl
theorem d0_318 : decode cL_law 318 = .ok (.iload_n 3, 1) := by decide +kernel
theorem k0_318 {d : Nat} {x : Int32} {l0 l1 l2 : Option PV} {st : List PV} {M : Mem} {Q : Option PV → Mem → Prop} : WP d 0 318 [l0, l1, l2, some (vi x)] (st) M Q = WP d 0 319 [l0, l1, l2, some (vi x)] (vi x :: st) M Q := w1 mC_0 d0_318 rfl rfl
theorem d0_319 : decode cL_law 319 = .ok (.iconst 2, 1) := by decide +kernel
theorem k0_319 {d : Nat} {l0 l1 l2 l3 : Option PV} {st : List PV} {M : Mem} {Q : Option PV → Mem → Prop} : WP d 0 319 [l0, l1, l2, l3] (st) M Q = WP d 0 320 [l0, l1, l2, l3] (vi 2 :: st) M Q := w_iconst mC_0 d0_319 (by decide)
theorem d0_320 : decode cL_law 320 = .ok (.iadd, 1) := by decide +kernel
theorem k0_320 {d : Nat} {l0 l1 l2 l3 : Option PV} {st : List PV} {M : Mem} {Q : Option PV → Mem → Prop} {x y : Int32} : WP d 0 320 [l0, l1, l2, l3] (vi y :: vi x :: st) M Q = WP d 0 321 [l0, l1, l2, l3] (vi (x + y) :: st) M Q := w1 mC_0 d0_320 rfl rfl
theorem d0_321 : decode cL_law 321 = .ok (.iaload, 1) := by decide +kernel
theorem k0_321 {d : Nat} {l0 l1 l2 l3 : Option PV} {st : List PV} {M : Mem} {Q : Option PV → Mem → Prop} {r : Nat} {j : Int32} (hk : mK M r = 13) (hj : inb j (mN M r)) : WP d 0 321 [l0, l1, l2, l3] (vi j :: vr r :: st) M Q = WP d 0 322 [l0, l1, l2, l3] (vi (mI M r (ix j)) :: st) M Q := w_sld mC_0 d0_321 hk hj
theorem d0_322 : decode cL_law 322 = .ok (.aload_n 0, 1) := by decide +kernel
theorem k0_322 {d x : Nat} {l1 l2 l3 : Option PV} {st : List PV} {M : Mem} {Q : Option PV → Mem → Prop} : WP d 0 322 [some (vr x), l1, l2, l3] (st) M Q = WP d 0 323 [some (vr x), l1, l2, l3] (vr x :: st) M Q := w1 mC_0 d0_322 rfl rfl
theorem d0_323 : decode cL_law 323 = .ok (.iload_n 3, 1) := by decide +kernel
theorem k0_323 {d : Nat} {x : Int32} {l0 l1 l2 : Option PV} {st : List PV} {M : Mem} {Q : Option PV → Mem → Prop} : WP d 0 323 [l0, l1, l2, some (vi x)] (st) M Q = WP d 0 324 [l0, l1, l2, some (vi x)] (vi x :: st) M Q := w1 mC_0 d0_323 rfl rfl
theorem d0_324 : decode cL_law 324 = .ok (.iconst 3, 1) := by decide +kernel
theorem k0_324 {d : Nat} {l0 l1 l2 l3 : Option PV} {st : List PV} {M : Mem} {Q : Option PV → Mem → Prop} : WP d 0 324 [l0, l1, l2, l3] (st) M Q = WP d 0 325 [l0, l1, l2, l3] (vi 3 :: st) M Q := w_iconst mC_0 d0_324 (by decide)
theorem d0_325 : decode cL_law 325 = .ok (.iadd, 1) := by decide +kernel
theorem k0_325 {d : Nat} {l0 l1 l2 l3 : Option PV} {st : List PV} {M : Mem} {Q : Option PV → Mem → Prop} {x y : Int32} : WP d 0 325 [l0, l1, l2, l3] (vi y :: vi x :: st) M Q = WP d 0 326 [l0, l1, l2, l3] (vi (x + y) :: st) M Q := w1 mC_0 d0_325 rfl rfl
theorem d0_326 : decode cL_law 326 = .ok (.iaload, 1) := by decide +kernel
theorem k0_326 {d : Nat} {l0 l1 l2 l3 : Option PV} {st : List PV} {M : Mem} {Q : Option PV → Mem → Prop} {r : Nat} {j : Int32} (hk : mK M r = 13) (hj : inb j (mN M r)) : WP d 0 326 [l0, l1, l2, l3] (vi j :: vr r :: st) M Q = WP d 0 327 [l0, l1, l2, l3] (vi (mI M r (ix j)) :: st) M Q := w_sld mC_0 d0_326 hk hj
theorem d0_327 : decode cL_law 327 = .ok (.invokevirtual 28, 3) := by decide +kernel
theorem k0_327 {d : Nat} {l0 l1 l2 l3 : Option PV} {st : List PV} {M : Mem} {Q : Option PV → Mem → Prop} {a0 a1 a2 : Int32} {r : Nat} (hl : szL st ≤ 8) (hk : mK M r = 11) : WP (d + 1) 0 327 [l0, l1, l2, l3] (vi a2 :: vi a1 :: vi a0 :: vr r :: st) M Q = WP d 75 0 [some (vr r), some (vi a0), some (vi a1), some (vi a2), none] [] M (fun v M' => WP (d + 1) 0 330 [l0, l1, l2, l3] (psh v st) M' Q) := w_callV mC_0 d0_327 (ci := 11) rfl rfl rfl (Nat.le_of_ble_eq_true rfl) (by decide) rfl hl hk
theorem d0_330 : decode cL_law 330 = .ok (.aload_n 2, 1) := by decide +kernel
theorem k0_330 {d x : Nat} {l0 l1 l3 : Option PV} {st : List PV} {M : Mem} {Q : Option PV → Mem → Prop} : WP d 0 330 [l0, l1, some (vr x), l3] (st) M Q = WP d 0 331 [l0, l1, some (vr x), l3] (vr x :: st) M Q := w1 mC_0 d0_330 rfl rfl
theorem d0_331 : decode cL_law 331 = .ok (.aload_n 0, 1) := by decide +kernel
theorem k0_331 {d x : Nat} {l1 l2 l3 : Option PV} {st : List PV} {M : Mem} {Q : Option PV → Mem → Prop} : WP d 0 331 [some (vr x), l1, l2, l3] (st) M Q = WP d 0 332 [some (vr x), l1, l2, l3] (vr x :: st) M Q := w1 mC_0 d0_331 rfl rfl
theorem d0_332 : decode cL_law 332 = .ok (.iload_n 3, 1) := by decide +kernel
theorem k0_332 {d : Nat} {x : Int32} {l0 l1 l2 : Option PV} {st : List PV} {M : Mem} {Q : Option PV → Mem → Prop} : WP d 0 332 [l0, l1, l2, some (vi x)] (st) M Q = WP d 0 333 [l0, l1, l2, some (vi x)] (vi x :: st) M Q := w1 mC_0 d0_332 rfl rfl
theorem d0_333 : decode cL_law 333 = .ok (.iconst 1, 1) := by decide +kernel
theorem k0_333 {d : Nat} {l0 l1 l2 l3 : Option PV} {st : List PV} {M : Mem} {Q : Option PV → Mem → Prop} : WP d 0 333 [l0, l1, l2, l3] (st) M Q = WP d 0 334 [l0, l1, l2, l3] (vi 1 :: st) M Q := w_iconst mC_0 d0_333 (by decide)
theorem d0_334 : decode cL_law 334 = .ok (.iadd, 1) := by decide +kernel
theorem k0_334 {d : Nat} {l0 l1 l2 l3 : Option PV} {st : List PV} {M : Mem} {Q : Option PV → Mem → Prop} {x y : Int32} : WP d 0 334 [l0, l1, l2, l3] (vi y :: vi x :: st) M Q = WP d 0 335 [l0, l1, l2, l3] (vi (x + y) :: st) M Q := w1 mC_0 d0_334 rfl rfl
theorem d0_335 : decode cL_law 335 = .ok (.iaload, 1) := by decide +kernel
theorem k0_335 {d : Nat} {l0 l1 l2 l3 : Option PV} {st : List PV} {M : Mem} {Q : Option PV → Mem → Prop} {r : Nat} {j : Int32} (hk : mK M r = 13) (hj : inb j (mN M r)) : WP d 0 335 [l0, l1, l2, l3] (vi j :: vr r :: st) M Q = WP d 0 336 [l0, l1, l2, l3] (vi (mI M r (ix j)) :: st) M Q := w_sld mC_0 d0_335 hk hj
theorem d0_336 : decode cL_law 336 = .ok (.aload_n 0, 1) := by decide +kernel
theorem k0_336 {d x : Nat} {l1 l2 l3 : Option PV} {st : List PV} {M : Mem} {Q : Option PV → Mem → Prop} : WP d 0 336 [some (vr x), l1, l2, l3] (st) M Q = WP d 0 337 [some (vr x), l1, l2, l3] (vr x :: st) M Q := w1 mC_0 d0_336 rfl rfl
theorem d0_337 : decode cL_law 337 = .ok (.iload_n 3, 1) := by decide +kernel
theorem k0_337 {d : Nat} {x : Int32} {l0 l1 l2 : Option PV} {st : List PV} {M : Mem} {Q : Option PV → Mem → Prop} : WP d 0 337 [l0, l1, l2, some (vi x)] (st) M Q = WP d 0 338 [l0, l1, l2, some (vi x)] (vi x :: st) M Q := w1 mC_0 d0_337 rfl rfl
theorem d0_338 : decode cL_law 338 = .ok (.iconst 2, 1) := by decide +kernel
theorem k0_338 {d : Nat} {l0 l1 l2 l3 : Option PV} {st : List PV} {M : Mem} {Q : Option PV → Mem → Prop} : WP d 0 338 [l0, l1, l2, l3] (st) M Q = WP d 0 339 [l0, l1, l2, l3] (vi 2 :: st) M Q := w_iconst mC_0 d0_338 (by decide)
theorem d0_339 : decode cL_law 339 = .ok (.iadd, 1) := by decide +kernel
theorem k0_339 {d : Nat} {l0 l1 l2 l3 : Option PV} {st : List PV} {M : Mem} {Q : Option PV → Mem → Prop} {x y : Int32} : WP d 0 339 [l0, l1, l2, l3] (vi y :: vi x :: st) M Q = WP d 0 340 [l0, l1, l2, l3] (vi (x + y) :: st) M Q := w1 mC_0 d0_339 rfl rfl
theorem d0_340 : decode cL_law 340 = .ok (.iaload, 1) := by decide +kernel
theorem k0_340 {d : Nat} {l0 l1 l2 l3 : Option PV} {st : List PV} {M : Mem} {Q : Option PV → Mem → Prop} {r : Nat} {j : Int32} (hk : mK M r = 13) (hj : inb j (mN M r)) : WP d 0 340 [l0, l1, l2, l3] (vi j :: vr r :: st) M Q = WP d 0 341 [l0, l1, l2, l3] (vi (mI M r (ix j)) :: st) M Q := w_sld mC_0 d0_340 hk hj
theorem d0_341 : decode cL_law 341 = .ok (.aload_n 0, 1) := by decide +kernel
theorem k0_341 {d x : Nat} {l1 l2 l3 : Option PV} {st : List PV} {M : Mem} {Q : Option PV → Mem → Prop} : WP d 0 341 [some (vr x), l1, l2, l3] (st) M Q = WP d 0 342 [some (vr x), l1, l2, l3] (vr x :: st) M Q := w1 mC_0 d0_341 rfl rfl
theorem d0_342 : decode cL_law 342 = .ok (.iload_n 3, 1) := by decide +kernel
theorem k0_342 {d : Nat} {x : Int32} {l0 l1 l2 : Option PV} {st : List PV} {M : Mem} {Q : Option PV → Mem → Prop} : WP d 0 342 [l0, l1, l2, some (vi x)] (st) M Q = WP d 0 343 [l0, l1, l2, some (vi x)] (vi x :: st) M Q := w1 mC_0 d0_342 rfl rfl
theorem d0_343 : decode cL_law 343 = .ok (.iconst 3, 1) := by decide +kernel
theorem k0_343 {d : Nat} {l0 l1 l2 l3 : Option PV} {st : List PV} {M : Mem} {Q : Option PV → Mem → Prop} : WP d 0 343 [l0, l1, l2, l3] (st) M Q = WP d 0 344 [l0, l1, l2, l3] (vi 3 :: st) M Q := w_iconst mC_0 d0_343 (by decide)
theorem d0_344 : decode cL_law 344 = .ok (.iadd, 1) := by decide +kernel
theorem k0_344 {d : Nat} {l0 l1 l2 l3 : Option PV} {st : List PV} {M : Mem} {Q : Option PV → Mem → Prop} {x y : Int32} : WP d 0 344 [l0, l1, l2, l3] (vi y :: vi x :: st) M Q = WP d 0 345 [l0, l1, l2, l3] (vi (x + y) :: st) M Q := w1 mC_0 d0_344 rfl rfl
theorem d0_345 : decode cL_law 345 = .ok (.iaload, 1) := by decide +kernel
theorem k0_345 {d : Nat} {l0 l1 l2 l3 : Option PV} {st : List PV} {M : Mem} {Q : Option PV → Mem → Prop} {r : Nat} {j : Int32} (hk : mK M r = 13) (hj : inb j (mN M r)) : WP d 0 345 [l0, l1, l2, l3] (vi j :: vr r :: st) M Q = WP d 0 346 [l0, l1, l2, l3] (vi (mI M r (ix j)) :: st) M Q := w_sld mC_0 d0_345 hk hj
theorem d0_346 : decode cL_law 346 = .ok (.invokevirtual 31, 3) := by decide +kernel
theorem k0_346 {d : Nat} {l0 l1 l2 l3 : Option PV} {st : List PV} {M : Mem} {Q : Option PV → Mem → Prop} {a0 a1 a2 : Int32} {r : Nat} (hl : szL st ≤ 8) (hk : mK M r = 12) : WP (d + 1) 0 346 [l0, l1, l2, l3] (vi a2 :: vi a1 :: vi a0 :: vr r :: st) M Q = WP d 160 0 [some (vr r), some (vi a0), some (vi a1), some (vi a2), none, none] [] M (fun v M' => WP (d + 1) 0 349 [l0, l1, l2, l3] (psh v st) M' Q) := w_callV mC_0 d0_346 (ci := 12) rfl rfl rfl (Nat.le_of_ble_eq_true rfl) (by decide) rfl hl hk
theorem d0_349 : decode cL_law 349 = .ok (.if_icmp .eq 1147, 3) := by decide +kernel
theorem k0_349 {d : Nat} {l0 l1 l2 l3 : Option PV} {st : List PV} {M : Mem} {Q : Option PV → Mem → Prop} {x y : Int32} : WP d 0 349 [l0, l1, l2, l3] (vi y :: vi x :: st) M Q = (if x = y then WP d 0 1496 [l0, l1, l2, l3] (st) M Q else WP d 0 352 [l0, l1, l2, l3] (st) M Q) := w_ic_eq mC_0 d0_349 (by decide)
theorem d0_352 : decode cL_law 352 = .ok (.iconst 0, 1) := by decide +kernel
theorem k0_352 {d : Nat} {l0 l1 l2 l3 : Option PV} {st : List PV} {M : Mem} {Q : Option PV → Mem → Prop} : WP d 0 352 [l0, l1, l2, l3] (st) M Q = WP d 0 353 [l0, l1, l2, l3] (vi 0 :: st) M Q := w_iconst mC_0 d0_352 (by decide)
theorem d0_353 : decode cL_law 353 = .ok (.ireturn, 1) := by decide +kernel
theorem k0_353 {d : Nat} {l0 l1 l2 l3 : Option PV} {M : Mem} {Q : Option PV → Mem → Prop} {x : Int32} (hx : x = 0 ∨ x = 1) : WP d 0 353 [l0, l1, l2, l3] ([vi x]) M Q = Q (some (vi x)) M := w_zret mC_0 d0_353 rfl hx
theorem d0_354 : decode cL_law 354 = .ok (.aload_n 1, 1) := by decide +kernel
theorem k0_354 {d x : Nat} {l0 l2 l3 : Option PV} {st : List PV} {M : Mem} {Q : Option PV → Mem → Prop} : WP d 0 354 [l0, some (vr x), l2, l3] (st) M Q = WP d 0 355 [l0, some (vr x), l2, l3] (vr x :: st) M Q := w1 mC_0 d0_354 rfl rfl
theorem d0_355 : decode cL_law 355 = .ok (.aload_n 0, 1) := by decide +kernel
theorem k0_355 {d x : Nat} {l1 l2 l3 : Option PV} {st : List PV} {M : Mem} {Q : Option PV → Mem → Prop} : WP d 0 355 [some (vr x), l1, l2, l3] (st) M Q = WP d 0 356 [some (vr x), l1, l2, l3] (vr x :: st) M Q := w1 mC_0 d0_355 rfl rfl
theorem d0_356 : decode cL_law 356 = .ok (.iload_n 3, 1) := by decide +kernel
theorem k0_356 {d : Nat} {x : Int32} {l0 l1 l2 : Option PV} {st : List PV} {M : Mem} {Q : Option PV → Mem → Prop} : WP d 0 356 [l0, l1, l2, some (vi x)] (st) M Q = WP d 0 357 [l0, l1, l2, some (vi x)] (vi x :: st) M Q := w1 mC_0 d0_356 rfl rfl
theorem d0_357 : decode cL_law 357 = .ok (.iconst 1, 1) := by decide +kernel
theorem k0_357 {d : Nat} {l0 l1 l2 l3 : Option PV} {st : List PV} {M : Mem} {Q : Option PV → Mem → Prop} : WP d 0 357 [l0, l1, l2, l3] (st) M Q = WP d 0 358 [l0, l1, l2, l3] (vi 1 :: st) M Q := w_iconst mC_0 d0_357 (by decide)
theorem d0_358 : decode cL_law 358 = .ok (.iadd, 1) := by decide +kernel
theorem k0_358 {d : Nat} {l0 l1 l2 l3 : Option PV} {st : List PV} {M : Mem} {Q : Option PV → Mem → Prop} {x y : Int32} : WP d 0 358 [l0, l1, l2, l3] (vi y :: vi x :: st) M Q = WP d 0 359 [l0, l1, l2, l3] (vi (x + y) :: st) M Q := w1 mC_0 d0_358 rfl rfl
theorem d0_359 : decode cL_law 359 = .ok (.iaload, 1) := by decide +kernel
theorem k0_359 {d : Nat} {l0 l1 l2 l3 : Option PV} {st : List PV} {M : Mem} {Q : Option PV → Mem → Prop} {r : Nat} {j : Int32} (hk : mK M r = 13) (hj : inb j (mN M r)) : WP d 0 359 [l0, l1, l2, l3] (vi j :: vr r :: st) M Q = WP d 0 360 [l0, l1, l2, l3] (vi (mI M r (ix j)) :: st) M Q := w_sld mC_0 d0_359 hk hj
theorem d0_360 : decode cL_law 360 = .ok (.aload_n 0, 1) := by decide +kernel
theorem k0_360 {d x : Nat} {l1 l2 l3 : Option PV} {st : List PV} {M : Mem} {Q : Option PV → Mem → Prop} : WP d 0 360 [some (vr x), l1, l2, l3] (st) M Q = WP d 0 361 [some (vr x), l1, l2, l3] (vr x :: st) M Q := w1 mC_0 d0_360 rfl rfl
theorem d0_361 : decode cL_law 361 = .ok (.iload_n 3, 1) := by decide +kernel
theorem k0_361 {d : Nat} {x : Int32} {l0 l1 l2 : Option PV} {st : List PV} {M : Mem} {Q : Option PV → Mem → Prop} : WP d 0 361 [l0, l1, l2, some (vi x)] (st) M Q = WP d 0 362 [l0, l1, l2, some (vi x)] (vi x :: st) M Q := w1 mC_0 d0_361 rfl rfl
theorem d0_362 : decode cL_law 362 = .ok (.iconst 2, 1) := by decide +kernel
theorem k0_362 {d : Nat} {l0 l1 l2 l3 : Option PV} {st : List PV} {M : Mem} {Q : Option PV → Mem → Prop} : WP d 0 362 [l0, l1, l2, l3] (st) M Q = WP d 0 363 [l0, l1, l2, l3] (vi 2 :: st) M Q := w_iconst mC_0 d0_362 (by decide)
theorem d0_363 : decode cL_law 363 = .ok (.iadd, 1) := by decide +kernel
theorem k0_363 {d : Nat} {l0 l1 l2 l3 : Option PV} {st : List PV} {M : Mem} {Q : Option PV → Mem → Prop} {x y : Int32} : WP d 0 363 [l0, l1, l2, l3] (vi y :: vi x :: st) M Q = WP d 0 364 [l0, l1, l2, l3] (vi (x + y) :: st) M Q := w1 mC_0 d0_363 rfl rfl
theorem d0_364 : decode cL_law 364 = .ok (.iaload, 1) := by decide +kernel
theorem k0_364 {d : Nat} {l0 l1 l2 l3 : Option PV} {st : List PV} {M : Mem} {Q : Option PV → Mem → Prop} {r : Nat} {j : Int32} (hk : mK M r = 13) (hj : inb j (mN M r)) : WP d 0 364 [l0, l1, l2, l3] (vi j :: vr r :: st) M Q = WP d 0 365 [l0, l1, l2, l3] (vi (mI M r (ix j)) :: st) M Q := w_sld mC_0 d0_364 hk hj
theorem d0_365 : decode cL_law 365 = .ok (.invokevirtual 32, 3) := by decide +kernel
theorem k0_365 {d : Nat} {l0 l1 l2 l3 : Option PV} {st : List PV} {M : Mem} {Q : Option PV → Mem → Prop} {a0 a1 : Int32} {r : Nat} (hl : szL st ≤ 8) (hk : mK M r = 11) : WP (d + 1) 0 365 [l0, l1, l2, l3] (vi a1 :: vi a0 :: vr r :: st) M Q = WP d 77 0 [some (vr r), some (vi a0), some (vi a1)] [] M (fun v M' => WP (d + 1) 0 368 [l0, l1, l2, l3] (psh v st) M' Q) := w_callV mC_0 d0_365 (ci := 11) rfl rfl rfl (Nat.le_of_ble_eq_true rfl) (by decide) rfl hl hk
theorem d0_368 : decode cL_law 368 = .ok (.aload_n 2, 1) := by decide +kernel
theorem k0_368 {d x : Nat} {l0 l1 l3 : Option PV} {st : List PV} {M : Mem} {Q : Option PV → Mem → Prop} : WP d 0 368 [l0, l1, some (vr x), l3] (st) M Q = WP d 0 369 [l0, l1, some (vr x), l3] (vr x :: st) M Q := w1 mC_0 d0_368 rfl rfl
theorem d0_369 : decode cL_law 369 = .ok (.aload_n 0, 1) := by decide +kernel
theorem k0_369 {d x : Nat} {l1 l2 l3 : Option PV} {st : List PV} {M : Mem} {Q : Option PV → Mem → Prop} : WP d 0 369 [some (vr x), l1, l2, l3] (st) M Q = WP d 0 370 [some (vr x), l1, l2, l3] (vr x :: st) M Q := w1 mC_0 d0_369 rfl rfl
theorem d0_370 : decode cL_law 370 = .ok (.iload_n 3, 1) := by decide +kernel
theorem k0_370 {d : Nat} {x : Int32} {l0 l1 l2 : Option PV} {st : List PV} {M : Mem} {Q : Option PV → Mem → Prop} : WP d 0 370 [l0, l1, l2, some (vi x)] (st) M Q = WP d 0 371 [l0, l1, l2, some (vi x)] (vi x :: st) M Q := w1 mC_0 d0_370 rfl rfl
theorem d0_371 : decode cL_law 371 = .ok (.iconst 1, 1) := by decide +kernel
theorem k0_371 {d : Nat} {l0 l1 l2 l3 : Option PV} {st : List PV} {M : Mem} {Q : Option PV → Mem → Prop} : WP d 0 371 [l0, l1, l2, l3] (st) M Q = WP d 0 372 [l0, l1, l2, l3] (vi 1 :: st) M Q := w_iconst mC_0 d0_371 (by decide)
theorem d0_372 : decode cL_law 372 = .ok (.iadd, 1) := by decide +kernel
theorem k0_372 {d : Nat} {l0 l1 l2 l3 : Option PV} {st : List PV} {M : Mem} {Q : Option PV → Mem → Prop} {x y : Int32} : WP d 0 372 [l0, l1, l2, l3] (vi y :: vi x :: st) M Q = WP d 0 373 [l0, l1, l2, l3] (vi (x + y) :: st) M Q := w1 mC_0 d0_372 rfl rfl
theorem d0_373 : decode cL_law 373 = .ok (.iaload, 1) := by decide +kernel
theorem k0_373 {d : Nat} {l0 l1 l2 l3 : Option PV} {st : List PV} {M : Mem} {Q : Option PV → Mem → Prop} {r : Nat} {j : Int32} (hk : mK M r = 13) (hj : inb j (mN M r)) : WP d 0 373 [l0, l1, l2, l3] (vi j :: vr r :: st) M Q = WP d 0 374 [l0, l1, l2, l3] (vi (mI M r (ix j)) :: st) M Q := w_sld mC_0 d0_373 hk hj
theorem d0_374 : decode cL_law 374 = .ok (.aload_n 0, 1) := by decide +kernel
theorem k0_374 {d x : Nat} {l1 l2 l3 : Option PV} {st : List PV} {M : Mem} {Q : Option PV → Mem → Prop} : WP d 0 374 [some (vr x), l1, l2, l3] (st) M Q = WP d 0 375 [some (vr x), l1, l2, l3] (vr x :: st) M Q := w1 mC_0 d0_374 rfl rfl
theorem d0_375 : decode cL_law 375 = .ok (.iload_n 3, 1) := by decide +kernel
theorem k0_375 {d : Nat} {x : Int32} {l0 l1 l2 : Option PV} {st : List PV} {M : Mem} {Q : Option PV → Mem → Prop} : WP d 0 375 [l0, l1, l2, some (vi x)] (st) M Q = WP d 0 376 [l0, l1, l2, some (vi x)] (vi x :: st) M Q := w1 mC_0 d0_375 rfl rfl
theorem d0_376 : decode cL_law 376 = .ok (.iconst 2, 1) := by decide +kernel
theorem k0_376 {d : Nat} {l0 l1 l2 l3 : Option PV} {st : List PV} {M : Mem} {Q : Option PV → Mem → Prop} : WP d 0 376 [l0, l1, l2, l3] (st) M Q = WP d 0 377 [l0, l1, l2, l3] (vi 2 :: st) M Q := w_iconst mC_0 d0_376 (by decide)
theorem d0_377 : decode cL_law 377 = .ok (.iadd, 1) := by decide +kernel
theorem k0_377 {d : Nat} {l0 l1 l2 l3 : Option PV} {st : List PV} {M : Mem} {Q : Option PV → Mem → Prop} {x y : Int32} : WP d 0 377 [l0, l1, l2, l3] (vi y :: vi x :: st) M Q = WP d 0 378 [l0, l1, l2, l3] (vi (x + y) :: st) M Q := w1 mC_0 d0_377 rfl rfl
theorem d0_378 : decode cL_law 378 = .ok (.iaload, 1) := by decide +kernel
theorem k0_378 {d : Nat} {l0 l1 l2 l3 : Option PV} {st : List PV} {M : Mem} {Q : Option PV → Mem → Prop} {r : Nat} {j : Int32} (hk : mK M r = 13) (hj : inb j (mN M r)) : WP d 0 378 [l0, l1, l2, l3] (vi j :: vr r :: st) M Q = WP d 0 379 [l0, l1, l2, l3] (vi (mI M r (ix j)) :: st) M Q := w_sld mC_0 d0_378 hk hj
theorem d0_379 : decode cL_law 379 = .ok (.invokevirtual 35, 3) := by decide +kernel
theorem k0_379 {d : Nat} {l0 l1 l2 l3 : Option PV} {st : List PV} {M : Mem} {Q : Option PV → Mem → Prop} {a0 a1 : Int32} {r : Nat} (hl : szL st ≤ 8) (hk : mK M r = 12) : WP (d + 1) 0 379 [l0, l1, l2, l3] (vi a1 :: vi a0 :: vr r :: st) M Q = WP d 161 0 [some (vr r), some (vi a0), some (vi a1)] [] M (fun v M' => WP (d + 1) 0 382 [l0, l1, l2, l3] (psh v st) M' Q) := w_callV mC_0 d0_379 (ci := 12) rfl rfl rfl (Nat.le_of_ble_eq_true rfl) (by decide) rfl hl hk
theorem d0_382 : decode cL_law 382 = .ok (.if_icmp .eq 1114, 3) := by decide +kernel
theorem k0_382 {d : Nat} {l0 l1 l2 l3 : Option PV} {st : List PV} {M : Mem} {Q : Option PV → Mem → Prop} {x y : Int32} : WP d 0 382 [l0, l1, l2, l3] (vi y :: vi x :: st) M Q = (if x = y then WP d 0 1496 [l0, l1, l2, l3] (st) M Q else WP d 0 385 [l0, l1, l2, l3] (st) M Q) := w_ic_eq mC_0 d0_382 (by decide)
theorem d0_385 : decode cL_law 385 = .ok (.iconst 0, 1) := by decide +kernel
theorem k0_385 {d : Nat} {l0 l1 l2 l3 : Option PV} {st : List PV} {M : Mem} {Q : Option PV → Mem → Prop} : WP d 0 385 [l0, l1, l2, l3] (st) M Q = WP d 0 386 [l0, l1, l2, l3] (vi 0 :: st) M Q := w_iconst mC_0 d0_385 (by decide)
theorem d0_386 : decode cL_law 386 = .ok (.ireturn, 1) := by decide +kernel
theorem k0_386 {d : Nat} {l0 l1 l2 l3 : Option PV} {M : Mem} {Q : Option PV → Mem → Prop} {x : Int32} (hx : x = 0 ∨ x = 1) : WP d 0 386 [l0, l1, l2, l3] ([vi x]) M Q = Q (some (vi x)) M := w_zret mC_0 d0_386 rfl hx
theorem d0_387 : decode cL_law 387 = .ok (.aload_n 1, 1) := by decide +kernel
theorem k0_387 {d x : Nat} {l0 l2 l3 : Option PV} {st : List PV} {M : Mem} {Q : Option PV → Mem → Prop} : WP d 0 387 [l0, some (vr x), l2, l3] (st) M Q = WP d 0 388 [l0, some (vr x), l2, l3] (vr x :: st) M Q := w1 mC_0 d0_387 rfl rfl
theorem d0_388 : decode cL_law 388 = .ok (.aload_n 0, 1) := by decide +kernel
theorem k0_388 {d x : Nat} {l1 l2 l3 : Option PV} {st : List PV} {M : Mem} {Q : Option PV → Mem → Prop} : WP d 0 388 [some (vr x), l1, l2, l3] (st) M Q = WP d 0 389 [some (vr x), l1, l2, l3] (vr x :: st) M Q := w1 mC_0 d0_388 rfl rfl
theorem d0_389 : decode cL_law 389 = .ok (.iload_n 3, 1) := by decide +kernel
theorem k0_389 {d : Nat} {x : Int32} {l0 l1 l2 : Option PV} {st : List PV} {M : Mem} {Q : Option PV → Mem → Prop} : WP d 0 389 [l0, l1, l2, some (vi x)] (st) M Q = WP d 0 390 [l0, l1, l2, some (vi x)] (vi x :: st) M Q := w1 mC_0 d0_389 rfl rfl
theorem d0_390 : decode cL_law 390 = .ok (.iconst 1, 1) := by decide +kernel
theorem k0_390 {d : Nat} {l0 l1 l2 l3 : Option PV} {st : List PV} {M : Mem} {Q : Option PV → Mem → Prop} : WP d 0 390 [l0, l1, l2, l3] (st) M Q = WP d 0 391 [l0, l1, l2, l3] (vi 1 :: st) M Q := w_iconst mC_0 d0_390 (by decide)
theorem d0_391 : decode cL_law 391 = .ok (.iadd, 1) := by decide +kernel
theorem k0_391 {d : Nat} {l0 l1 l2 l3 : Option PV} {st : List PV} {M : Mem} {Q : Option PV → Mem → Prop} {x y : Int32} : WP d 0 391 [l0, l1, l2, l3] (vi y :: vi x :: st) M Q = WP d 0 392 [l0, l1, l2, l3] (vi (x + y) :: st) M Q := w1 mC_0 d0_391 rfl rfl
theorem d0_392 : decode cL_law 392 = .ok (.iaload, 1) := by decide +kernel
theorem k0_392 {d : Nat} {l0 l1 l2 l3 : Option PV} {st : List PV} {M : Mem} {Q : Option PV → Mem → Prop} {r : Nat} {j : Int32} (hk : mK M r = 13) (hj : inb j (mN M r)) : WP d 0 392 [l0, l1, l2, l3] (vi j :: vr r :: st) M Q = WP d 0 393 [l0, l1, l2, l3] (vi (mI M r (ix j)) :: st) M Q := w_sld mC_0 d0_392 hk hj
theorem d0_393 : decode cL_law 393 = .ok (.invokevirtual 36, 3) := by decide +kernel
theorem k0_393 {d : Nat} {l0 l1 l2 l3 : Option PV} {st : List PV} {M : Mem} {Q : Option PV → Mem → Prop} {a0 : Int32} {r : Nat} (hl : szL st ≤ 8) (hk : mK M r = 11) : WP (d + 1) 0 393 [l0, l1, l2, l3] (vi a0 :: vr r :: st) M Q = WP d 78 0 [some (vr r), some (vi a0)] [] M (fun v M' => WP (d + 1) 0 396 [l0, l1, l2, l3] (psh v st) M' Q) := w_callV mC_0 d0_393 (ci := 11) rfl rfl rfl (Nat.le_of_ble_eq_true rfl) (by decide) rfl hl hk
theorem d0_396 : decode cL_law 396 = .ok (.aload_n 2, 1) := by decide +kernel
theorem k0_396 {d x : Nat} {l0 l1 l3 : Option PV} {st : List PV} {M : Mem} {Q : Option PV → Mem → Prop} : WP d 0 396 [l0, l1, some (vr x), l3] (st) M Q = WP d 0 397 [l0, l1, some (vr x), l3] (vr x :: st) M Q := w1 mC_0 d0_396 rfl rfl
theorem d0_397 : decode cL_law 397 = .ok (.aload_n 0, 1) := by decide +kernel
theorem k0_397 {d x : Nat} {l1 l2 l3 : Option PV} {st : List PV} {M : Mem} {Q : Option PV → Mem → Prop} : WP d 0 397 [some (vr x), l1, l2, l3] (st) M Q = WP d 0 398 [some (vr x), l1, l2, l3] (vr x :: st) M Q := w1 mC_0 d0_397 rfl rfl
theorem d0_398 : decode cL_law 398 = .ok (.iload_n 3, 1) := by decide +kernel
theorem k0_398 {d : Nat} {x : Int32} {l0 l1 l2 : Option PV} {st : List PV} {M : Mem} {Q : Option PV → Mem → Prop} : WP d 0 398 [l0, l1, l2, some (vi x)] (st) M Q = WP d 0 399 [l0, l1, l2, some (vi x)] (vi x :: st) M Q := w1 mC_0 d0_398 rfl rfl
theorem d0_399 : decode cL_law 399 = .ok (.iconst 1, 1) := by decide +kernel
theorem k0_399 {d : Nat} {l0 l1 l2 l3 : Option PV} {st : List PV} {M : Mem} {Q : Option PV → Mem → Prop} : WP d 0 399 [l0, l1, l2, l3] (st) M Q = WP d 0 400 [l0, l1, l2, l3] (vi 1 :: st) M Q := w_iconst mC_0 d0_399 (by decide)
theorem d0_400 : decode cL_law 400 = .ok (.iadd, 1) := by decide +kernel
theorem k0_400 {d : Nat} {l0 l1 l2 l3 : Option PV} {st : List PV} {M : Mem} {Q : Option PV → Mem → Prop} {x y : Int32} : WP d 0 400 [l0, l1, l2, l3] (vi y :: vi x :: st) M Q = WP d 0 401 [l0, l1, l2, l3] (vi (x + y) :: st) M Q := w1 mC_0 d0_400 rfl rfl
theorem d0_401 : decode cL_law 401 = .ok (.iaload, 1) := by decide +kernel
theorem k0_401 {d : Nat} {l0 l1 l2 l3 : Option PV} {st : List PV} {M : Mem} {Q : Option PV → Mem → Prop} {r : Nat} {j : Int32} (hk : mK M r = 13) (hj : inb j (mN M r)) : WP d 0 401 [l0, l1, l2, l3] (vi j :: vr r :: st) M Q = WP d 0 402 [l0, l1, l2, l3] (vi (mI M r (ix j)) :: st) M Q := w_sld mC_0 d0_401 hk hj
theorem d0_402 : decode cL_law 402 = .ok (.invokevirtual 39, 3) := by decide +kernel
theorem k0_402 {d : Nat} {l0 l1 l2 l3 : Option PV} {st : List PV} {M : Mem} {Q : Option PV → Mem → Prop} {a0 : Int32} {r : Nat} (hl : szL st ≤ 8) (hk : mK M r = 12) : WP (d + 1) 0 402 [l0, l1, l2, l3] (vi a0 :: vr r :: st) M Q = WP d 164 0 [some (vr r), some (vi a0)] [] M (fun v M' => WP (d + 1) 0 405 [l0, l1, l2, l3] (psh v st) M' Q) := w_callV mC_0 d0_402 (ci := 12) rfl rfl rfl (Nat.le_of_ble_eq_true rfl) (by decide) rfl hl hk
theorem d0_405 : decode cL_law 405 = .ok (.if_icmp .eq 1091, 3) := by decide +kernel
theorem k0_405 {d : Nat} {l0 l1 l2 l3 : Option PV} {st : List PV} {M : Mem} {Q : Option PV → Mem → Prop} {x y : Int32} : WP d 0 405 [l0, l1, l2, l3] (vi y :: vi x :: st) M Q = (if x = y then WP d 0 1496 [l0, l1, l2, l3] (st) M Q else WP d 0 408 [l0, l1, l2, l3] (st) M Q) := w_ic_eq mC_0 d0_405 (by decide)
theorem d0_408 : decode cL_law 408 = .ok (.iconst 0, 1) := by decide +kernel
theorem k0_408 {d : Nat} {l0 l1 l2 l3 : Option PV} {st : List PV} {M : Mem} {Q : Option PV → Mem → Prop} : WP d 0 408 [l0, l1, l2, l3] (st) M Q = WP d 0 409 [l0, l1, l2, l3] (vi 0 :: st) M Q := w_iconst mC_0 d0_408 (by decide)
theorem d0_409 : decode cL_law 409 = .ok (.ireturn, 1) := by decide +kernel
theorem k0_409 {d : Nat} {l0 l1 l2 l3 : Option PV} {M : Mem} {Q : Option PV → Mem → Prop} {x : Int32} (hx : x = 0 ∨ x = 1) : WP d 0 409 [l0, l1, l2, l3] ([vi x]) M Q = Q (some (vi x)) M := w_zret mC_0 d0_409 rfl hx
theorem d0_410 : decode cL_law 410 = .ok (.aload_n 1, 1) := by decide +kernel
theorem k0_410 {d x : Nat} {l0 l2 l3 : Option PV} {st : List PV} {M : Mem} {Q : Option PV → Mem → Prop} : WP d 0 410 [l0, some (vr x), l2, l3] (st) M Q = WP d 0 411 [l0, some (vr x), l2, l3] (vr x :: st) M Q := w1 mC_0 d0_410 rfl rfl
theorem d0_411 : decode cL_law 411 = .ok (.invokevirtual 40, 3) := by decide +kernel
theorem k0_411 {d : Nat} {l0 l1 l2 l3 : Option PV} {st : List PV} {M : Mem} {Q : Option PV → Mem → Prop} {r : Nat} (hl : szL st ≤ 8) (hk : mK M r = 11) : WP (d + 1) 0 411 [l0, l1, l2, l3] (vr r :: st) M Q = WP d 79 0 [some (vr r), none, none] [] M (fun v M' => WP (d + 1) 0 414 [l0, l1, l2, l3] (psh v st) M' Q) := w_callV mC_0 d0_411 (ci := 11) rfl rfl rfl (Nat.le_of_ble_eq_true rfl) (by decide) rfl hl hk
theorem d0_414 : decode cL_law 414 = .ok (.aload_n 2, 1) := by decide +kernel
theorem k0_414 {d x : Nat} {l0 l1 l3 : Option PV} {st : List PV} {M : Mem} {Q : Option PV → Mem → Prop} : WP d 0 414 [l0, l1, some (vr x), l3] (st) M Q = WP d 0 415 [l0, l1, some (vr x), l3] (vr x :: st) M Q := w1 mC_0 d0_414 rfl rfl
theorem d0_415 : decode cL_law 415 = .ok (.invokevirtual 44, 3) := by decide +kernel
theorem k0_415 {d : Nat} {l0 l1 l2 l3 : Option PV} {st : List PV} {M : Mem} {Q : Option PV → Mem → Prop} {r : Nat} (hl : szL st ≤ 8) (hk : mK M r = 12) : WP (d + 1) 0 415 [l0, l1, l2, l3] (vr r :: st) M Q = WP d 177 0 [some (vr r), none, none, none] [] M (fun v M' => WP (d + 1) 0 418 [l0, l1, l2, l3] (psh v st) M' Q) := w_callV mC_0 d0_415 (ci := 12) rfl rfl rfl (Nat.le_of_ble_eq_true rfl) (by decide) rfl hl hk
theorem d0_418 : decode cL_law 418 = .ok (.if_icmp .eq 1078, 3) := by decide +kernel
theorem k0_418 {d : Nat} {l0 l1 l2 l3 : Option PV} {st : List PV} {M : Mem} {Q : Option PV → Mem → Prop} {x y : Int32} : WP d 0 418 [l0, l1, l2, l3] (vi y :: vi x :: st) M Q = (if x = y then WP d 0 1496 [l0, l1, l2, l3] (st) M Q else WP d 0 421 [l0, l1, l2, l3] (st) M Q) := w_ic_eq mC_0 d0_418 (by decide)
theorem d0_421 : decode cL_law 421 = .ok (.iconst 0, 1) := by decide +kernel
theorem k0_421 {d : Nat} {l0 l1 l2 l3 : Option PV} {st : List PV} {M : Mem} {Q : Option PV → Mem → Prop} : WP d 0 421 [l0, l1, l2, l3] (st) M Q = WP d 0 422 [l0, l1, l2, l3] (vi 0 :: st) M Q := w_iconst mC_0 d0_421 (by decide)
theorem d0_422 : decode cL_law 422 = .ok (.ireturn, 1) := by decide +kernel
theorem k0_422 {d : Nat} {l0 l1 l2 l3 : Option PV} {M : Mem} {Q : Option PV → Mem → Prop} {x : Int32} (hx : x = 0 ∨ x = 1) : WP d 0 422 [l0, l1, l2, l3] ([vi x]) M Q = Q (some (vi x)) M := w_zret mC_0 d0_422 rfl hx
theorem d0_423 : decode cL_law 423 = .ok (.aload_n 1, 1) := by decide +kernel
theorem k0_423 {d x : Nat} {l0 l2 l3 : Option PV} {st : List PV} {M : Mem} {Q : Option PV → Mem → Prop} : WP d 0 423 [l0, some (vr x), l2, l3] (st) M Q = WP d 0 424 [l0, some (vr x), l2, l3] (vr x :: st) M Q := w1 mC_0 d0_423 rfl rfl
theorem d0_424 : decode cL_law 424 = .ok (.aload_n 0, 1) := by decide +kernel
theorem k0_424 {d x : Nat} {l1 l2 l3 : Option PV} {st : List PV} {M : Mem} {Q : Option PV → Mem → Prop} : WP d 0 424 [some (vr x), l1, l2, l3] (st) M Q = WP d 0 425 [some (vr x), l1, l2, l3] (vr x :: st) M Q := w1 mC_0 d0_424 rfl rfl
theorem d0_425 : decode cL_law 425 = .ok (.iload_n 3, 1) := by decide +kernel
theorem k0_425 {d : Nat} {x : Int32} {l0 l1 l2 : Option PV} {st : List PV} {M : Mem} {Q : Option PV → Mem → Prop} : WP d 0 425 [l0, l1, l2, some (vi x)] (st) M Q = WP d 0 426 [l0, l1, l2, some (vi x)] (vi x :: st) M Q := w1 mC_0 d0_425 rfl rfl
theorem d0_426 : decode cL_law 426 = .ok (.iconst 1, 1) := by decide +kernel
theorem k0_426 {d : Nat} {l0 l1 l2 l3 : Option PV} {st : List PV} {M : Mem} {Q : Option PV → Mem → Prop} : WP d 0 426 [l0, l1, l2, l3] (st) M Q = WP d 0 427 [l0, l1, l2, l3] (vi 1 :: st) M Q := w_iconst mC_0 d0_426 (by decide)
theorem d0_427 : decode cL_law 427 = .ok (.iadd, 1) := by decide +kernel
theorem k0_427 {d : Nat} {l0 l1 l2 l3 : Option PV} {st : List PV} {M : Mem} {Q : Option PV → Mem → Prop} {x y : Int32} : WP d 0 427 [l0, l1, l2, l3] (vi y :: vi x :: st) M Q = WP d 0 428 [l0, l1, l2, l3] (vi (x + y) :: st) M Q := w1 mC_0 d0_427 rfl rfl
theorem d0_428 : decode cL_law 428 = .ok (.iaload, 1) := by decide +kernel
theorem k0_428 {d : Nat} {l0 l1 l2 l3 : Option PV} {st : List PV} {M : Mem} {Q : Option PV → Mem → Prop} {r : Nat} {j : Int32} (hk : mK M r = 13) (hj : inb j (mN M r)) : WP d 0 428 [l0, l1, l2, l3] (vi j :: vr r :: st) M Q = WP d 0 429 [l0, l1, l2, l3] (vi (mI M r (ix j)) :: st) M Q := w_sld mC_0 d0_428 hk hj
theorem d0_429 : decode cL_law 429 = .ok (.invokevirtual 45, 3) := by decide +kernel
theorem k0_429 {d : Nat} {l0 l1 l2 l3 : Option PV} {st : List PV} {M : Mem} {Q : Option PV → Mem → Prop} {a0 : Int32} {r : Nat} (hl : szL st ≤ 8) (hk : mK M r = 11) : WP (d + 1) 0 429 [l0, l1, l2, l3] (vi a0 :: vr r :: st) M Q = WP d 80 0 [some (vr r), some (vi a0)] [] M (fun v M' => WP (d + 1) 0 432 [l0, l1, l2, l3] (psh v st) M' Q) := w_callV mC_0 d0_429 (ci := 11) rfl rfl rfl (Nat.le_of_ble_eq_true rfl) (by decide) rfl hl hk
theorem d0_432 : decode cL_law 432 = .ok (.aload_n 2, 1) := by decide +kernel
theorem k0_432 {d x : Nat} {l0 l1 l3 : Option PV} {st : List PV} {M : Mem} {Q : Option PV → Mem → Prop} : WP d 0 432 [l0, l1, some (vr x), l3] (st) M Q = WP d 0 433 [l0, l1, some (vr x), l3] (vr x :: st) M Q := w1 mC_0 d0_432 rfl rfl
theorem d0_433 : decode cL_law 433 = .ok (.aload_n 0, 1) := by decide +kernel
theorem k0_433 {d x : Nat} {l1 l2 l3 : Option PV} {st : List PV} {M : Mem} {Q : Option PV → Mem → Prop} : WP d 0 433 [some (vr x), l1, l2, l3] (st) M Q = WP d 0 434 [some (vr x), l1, l2, l3] (vr x :: st) M Q := w1 mC_0 d0_433 rfl rfl
theorem d0_434 : decode cL_law 434 = .ok (.iload_n 3, 1) := by decide +kernel
theorem k0_434 {d : Nat} {x : Int32} {l0 l1 l2 : Option PV} {st : List PV} {M : Mem} {Q : Option PV → Mem → Prop} : WP d 0 434 [l0, l1, l2, some (vi x)] (st) M Q = WP d 0 435 [l0, l1, l2, some (vi x)] (vi x :: st) M Q := w1 mC_0 d0_434 rfl rfl
theorem d0_435 : decode cL_law 435 = .ok (.iconst 1, 1) := by decide +kernel
theorem k0_435 {d : Nat} {l0 l1 l2 l3 : Option PV} {st : List PV} {M : Mem} {Q : Option PV → Mem → Prop} : WP d 0 435 [l0, l1, l2, l3] (st) M Q = WP d 0 436 [l0, l1, l2, l3] (vi 1 :: st) M Q := w_iconst mC_0 d0_435 (by decide)
theorem d0_436 : decode cL_law 436 = .ok (.iadd, 1) := by decide +kernel
theorem k0_436 {d : Nat} {l0 l1 l2 l3 : Option PV} {st : List PV} {M : Mem} {Q : Option PV → Mem → Prop} {x y : Int32} : WP d 0 436 [l0, l1, l2, l3] (vi y :: vi x :: st) M Q = WP d 0 437 [l0, l1, l2, l3] (vi (x + y) :: st) M Q := w1 mC_0 d0_436 rfl rfl
theorem d0_437 : decode cL_law 437 = .ok (.iaload, 1) := by decide +kernel
theorem k0_437 {d : Nat} {l0 l1 l2 l3 : Option PV} {st : List PV} {M : Mem} {Q : Option PV → Mem → Prop} {r : Nat} {j : Int32} (hk : mK M r = 13) (hj : inb j (mN M r)) : WP d 0 437 [l0, l1, l2, l3] (vi j :: vr r :: st) M Q = WP d 0 438 [l0, l1, l2, l3] (vi (mI M r (ix j)) :: st) M Q := w_sld mC_0 d0_437 hk hj
theorem d0_438 : decode cL_law 438 = .ok (.invokevirtual 48, 3) := by decide +kernel
theorem k0_438 {d : Nat} {l0 l1 l2 l3 : Option PV} {st : List PV} {M : Mem} {Q : Option PV → Mem → Prop} {a0 : Int32} {r : Nat} (hl : szL st ≤ 8) (hk : mK M r = 12) : WP (d + 1) 0 438 [l0, l1, l2, l3] (vi a0 :: vr r :: st) M Q = WP d 185 0 [some (vr r), some (vi a0)] [] M (fun v M' => WP (d + 1) 0 441 [l0, l1, l2, l3] (psh v st) M' Q) := w_callV mC_0 d0_438 (ci := 12) rfl rfl rfl (Nat.le_of_ble_eq_true rfl) (by decide) rfl hl hk
theorem d0_441 : decode cL_law 441 = .ok (.if_icmp .eq 1055, 3) := by decide +kernel
theorem k0_441 {d : Nat} {l0 l1 l2 l3 : Option PV} {st : List PV} {M : Mem} {Q : Option PV → Mem → Prop} {x y : Int32} : WP d 0 441 [l0, l1, l2, l3] (vi y :: vi x :: st) M Q = (if x = y then WP d 0 1496 [l0, l1, l2, l3] (st) M Q else WP d 0 444 [l0, l1, l2, l3] (st) M Q) := w_ic_eq mC_0 d0_441 (by decide)
theorem d0_444 : decode cL_law 444 = .ok (.iconst 0, 1) := by decide +kernel
theorem k0_444 {d : Nat} {l0 l1 l2 l3 : Option PV} {st : List PV} {M : Mem} {Q : Option PV → Mem → Prop} : WP d 0 444 [l0, l1, l2, l3] (st) M Q = WP d 0 445 [l0, l1, l2, l3] (vi 0 :: st) M Q := w_iconst mC_0 d0_444 (by decide)
theorem d0_445 : decode cL_law 445 = .ok (.ireturn, 1) := by decide +kernel
theorem k0_445 {d : Nat} {l0 l1 l2 l3 : Option PV} {M : Mem} {Q : Option PV → Mem → Prop} {x : Int32} (hx : x = 0 ∨ x = 1) : WP d 0 445 [l0, l1, l2, l3] ([vi x]) M Q = Q (some (vi x)) M := w_zret mC_0 d0_445 rfl hx
theorem d0_446 : decode cL_law 446 = .ok (.aload_n 1, 1) := by decide +kernel
theorem k0_446 {d x : Nat} {l0 l2 l3 : Option PV} {st : List PV} {M : Mem} {Q : Option PV → Mem → Prop} : WP d 0 446 [l0, some (vr x), l2, l3] (st) M Q = WP d 0 447 [l0, some (vr x), l2, l3] (vr x :: st) M Q := w1 mC_0 d0_446 rfl rfl
theorem d0_447 : decode cL_law 447 = .ok (.aload_n 0, 1) := by decide +kernel
theorem k0_447 {d x : Nat} {l1 l2 l3 : Option PV} {st : List PV} {M : Mem} {Q : Option PV → Mem → Prop} : WP d 0 447 [some (vr x), l1, l2, l3] (st) M Q = WP d 0 448 [some (vr x), l1, l2, l3] (vr x :: st) M Q := w1 mC_0 d0_447 rfl rfl
theorem d0_448 : decode cL_law 448 = .ok (.iload_n 3, 1) := by decide +kernel
theorem k0_448 {d : Nat} {x : Int32} {l0 l1 l2 : Option PV} {st : List PV} {M : Mem} {Q : Option PV → Mem → Prop} : WP d 0 448 [l0, l1, l2, some (vi x)] (st) M Q = WP d 0 449 [l0, l1, l2, some (vi x)] (vi x :: st) M Q := w1 mC_0 d0_448 rfl rfl
theorem d0_449 : decode cL_law 449 = .ok (.iconst 1, 1) := by decide +kernel
theorem k0_449 {d : Nat} {l0 l1 l2 l3 : Option PV} {st : List PV} {M : Mem} {Q : Option PV → Mem → Prop} : WP d 0 449 [l0, l1, l2, l3] (st) M Q = WP d 0 450 [l0, l1, l2, l3] (vi 1 :: st) M Q := w_iconst mC_0 d0_449 (by decide)
theorem d0_450 : decode cL_law 450 = .ok (.iadd, 1) := by decide +kernel
theorem k0_450 {d : Nat} {l0 l1 l2 l3 : Option PV} {st : List PV} {M : Mem} {Q : Option PV → Mem → Prop} {x y : Int32} : WP d 0 450 [l0, l1, l2, l3] (vi y :: vi x :: st) M Q = WP d 0 451 [l0, l1, l2, l3] (vi (x + y) :: st) M Q := w1 mC_0 d0_450 rfl rfl
theorem d0_451 : decode cL_law 451 = .ok (.iaload, 1) := by decide +kernel
theorem k0_451 {d : Nat} {l0 l1 l2 l3 : Option PV} {st : List PV} {M : Mem} {Q : Option PV → Mem → Prop} {r : Nat} {j : Int32} (hk : mK M r = 13) (hj : inb j (mN M r)) : WP d 0 451 [l0, l1, l2, l3] (vi j :: vr r :: st) M Q = WP d 0 452 [l0, l1, l2, l3] (vi (mI M r (ix j)) :: st) M Q := w_sld mC_0 d0_451 hk hj
theorem d0_452 : decode cL_law 452 = .ok (.aload_n 0, 1) := by decide +kernel
theorem k0_452 {d x : Nat} {l1 l2 l3 : Option PV} {st : List PV} {M : Mem} {Q : Option PV → Mem → Prop} : WP d 0 452 [some (vr x), l1, l2, l3] (st) M Q = WP d 0 453 [some (vr x), l1, l2, l3] (vr x :: st) M Q := w1 mC_0 d0_452 rfl rfl
theorem d0_453 : decode cL_law 453 = .ok (.iload_n 3, 1) := by decide +kernel
theorem k0_453 {d : Nat} {x : Int32} {l0 l1 l2 : Option PV} {st : List PV} {M : Mem} {Q : Option PV → Mem → Prop} : WP d 0 453 [l0, l1, l2, some (vi x)] (st) M Q = WP d 0 454 [l0, l1, l2, some (vi x)] (vi x :: st) M Q := w1 mC_0 d0_453 rfl rfl
theorem d0_454 : decode cL_law 454 = .ok (.iconst 2, 1) := by decide +kernel
theorem k0_454 {d : Nat} {l0 l1 l2 l3 : Option PV} {st : List PV} {M : Mem} {Q : Option PV → Mem → Prop} : WP d 0 454 [l0, l1, l2, l3] (st) M Q = WP d 0 455 [l0, l1, l2, l3] (vi 2 :: st) M Q := w_iconst mC_0 d0_454 (by decide)
theorem d0_455 : decode cL_law 455 = .ok (.iadd, 1) := by decide +kernel
theorem k0_455 {d : Nat} {l0 l1 l2 l3 : Option PV} {st : List PV} {M : Mem} {Q : Option PV → Mem → Prop} {x y : Int32} : WP d 0 455 [l0, l1, l2, l3] (vi y :: vi x :: st) M Q = WP d 0 456 [l0, l1, l2, l3] (vi (x + y) :: st) M Q := w1 mC_0 d0_455 rfl rfl
theorem d0_456 : decode cL_law 456 = .ok (.iaload, 1) := by decide +kernel
theorem k0_456 {d : Nat} {l0 l1 l2 l3 : Option PV} {st : List PV} {M : Mem} {Q : Option PV → Mem → Prop} {r : Nat} {j : Int32} (hk : mK M r = 13) (hj : inb j (mN M r)) : WP d 0 456 [l0, l1, l2, l3] (vi j :: vr r :: st) M Q = WP d 0 457 [l0, l1, l2, l3] (vi (mI M r (ix j)) :: st) M Q := w_sld mC_0 d0_456 hk hj
theorem d0_457 : decode cL_law 457 = .ok (.aload_n 0, 1) := by decide +kernel
theorem k0_457 {d x : Nat} {l1 l2 l3 : Option PV} {st : List PV} {M : Mem} {Q : Option PV → Mem → Prop} : WP d 0 457 [some (vr x), l1, l2, l3] (st) M Q = WP d 0 458 [some (vr x), l1, l2, l3] (vr x :: st) M Q := w1 mC_0 d0_457 rfl rfl
theorem d0_458 : decode cL_law 458 = .ok (.iload_n 3, 1) := by decide +kernel
theorem k0_458 {d : Nat} {x : Int32} {l0 l1 l2 : Option PV} {st : List PV} {M : Mem} {Q : Option PV → Mem → Prop} : WP d 0 458 [l0, l1, l2, some (vi x)] (st) M Q = WP d 0 459 [l0, l1, l2, some (vi x)] (vi x :: st) M Q := w1 mC_0 d0_458 rfl rfl
theorem d0_459 : decode cL_law 459 = .ok (.iconst 3, 1) := by decide +kernel
theorem k0_459 {d : Nat} {l0 l1 l2 l3 : Option PV} {st : List PV} {M : Mem} {Q : Option PV → Mem → Prop} : WP d 0 459 [l0, l1, l2, l3] (st) M Q = WP d 0 460 [l0, l1, l2, l3] (vi 3 :: st) M Q := w_iconst mC_0 d0_459 (by decide)
theorem d0_460 : decode cL_law 460 = .ok (.iadd, 1) := by decide +kernel
theorem k0_460 {d : Nat} {l0 l1 l2 l3 : Option PV} {st : List PV} {M : Mem} {Q : Option PV → Mem → Prop} {x y : Int32} : WP d 0 460 [l0, l1, l2, l3] (vi y :: vi x :: st) M Q = WP d 0 461 [l0, l1, l2, l3] (vi (x + y) :: st) M Q := w1 mC_0 d0_460 rfl rfl
theorem d0_461 : decode cL_law 461 = .ok (.iaload, 1) := by decide +kernel
theorem k0_461 {d : Nat} {l0 l1 l2 l3 : Option PV} {st : List PV} {M : Mem} {Q : Option PV → Mem → Prop} {r : Nat} {j : Int32} (hk : mK M r = 13) (hj : inb j (mN M r)) : WP d 0 461 [l0, l1, l2, l3] (vi j :: vr r :: st) M Q = WP d 0 462 [l0, l1, l2, l3] (vi (mI M r (ix j)) :: st) M Q := w_sld mC_0 d0_461 hk hj
theorem d0_462 : decode cL_law 462 = .ok (.invokevirtual 49, 3) := by decide +kernel
theorem k0_462 {d : Nat} {l0 l1 l2 l3 : Option PV} {st : List PV} {M : Mem} {Q : Option PV → Mem → Prop} {a0 a1 a2 : Int32} {r : Nat} (hl : szL st ≤ 8) (hk : mK M r = 11) : WP (d + 1) 0 462 [l0, l1, l2, l3] (vi a2 :: vi a1 :: vi a0 :: vr r :: st) M Q = WP d 81 0 [some (vr r), some (vi a0), some (vi a1), some (vi a2), none] [] M (fun v M' => WP (d + 1) 0 465 [l0, l1, l2, l3] (psh v st) M' Q) := w_callV mC_0 d0_462 (ci := 11) rfl rfl rfl (Nat.le_of_ble_eq_true rfl) (by decide) rfl hl hk
theorem d0_465 : decode cL_law 465 = .ok (.aload_n 2, 1) := by decide +kernel
theorem k0_465 {d x : Nat} {l0 l1 l3 : Option PV} {st : List PV} {M : Mem} {Q : Option PV → Mem → Prop} : WP d 0 465 [l0, l1, some (vr x), l3] (st) M Q = WP d 0 466 [l0, l1, some (vr x), l3] (vr x :: st) M Q := w1 mC_0 d0_465 rfl rfl
theorem d0_466 : decode cL_law 466 = .ok (.aload_n 0, 1) := by decide +kernel
theorem k0_466 {d x : Nat} {l1 l2 l3 : Option PV} {st : List PV} {M : Mem} {Q : Option PV → Mem → Prop} : WP d 0 466 [some (vr x), l1, l2, l3] (st) M Q = WP d 0 467 [some (vr x), l1, l2, l3] (vr x :: st) M Q := w1 mC_0 d0_466 rfl rfl
theorem d0_467 : decode cL_law 467 = .ok (.iload_n 3, 1) := by decide +kernel
theorem k0_467 {d : Nat} {x : Int32} {l0 l1 l2 : Option PV} {st : List PV} {M : Mem} {Q : Option PV → Mem → Prop} : WP d 0 467 [l0, l1, l2, some (vi x)] (st) M Q = WP d 0 468 [l0, l1, l2, some (vi x)] (vi x :: st) M Q := w1 mC_0 d0_467 rfl rfl
theorem d0_468 : decode cL_law 468 = .ok (.iconst 1, 1) := by decide +kernel
theorem k0_468 {d : Nat} {l0 l1 l2 l3 : Option PV} {st : List PV} {M : Mem} {Q : Option PV → Mem → Prop} : WP d 0 468 [l0, l1, l2, l3] (st) M Q = WP d 0 469 [l0, l1, l2, l3] (vi 1 :: st) M Q := w_iconst mC_0 d0_468 (by decide)
theorem d0_469 : decode cL_law 469 = .ok (.iadd, 1) := by decide +kernel
theorem k0_469 {d : Nat} {l0 l1 l2 l3 : Option PV} {st : List PV} {M : Mem} {Q : Option PV → Mem → Prop} {x y : Int32} : WP d 0 469 [l0, l1, l2, l3] (vi y :: vi x :: st) M Q = WP d 0 470 [l0, l1, l2, l3] (vi (x + y) :: st) M Q := w1 mC_0 d0_469 rfl rfl
theorem d0_470 : decode cL_law 470 = .ok (.iaload, 1) := by decide +kernel
theorem k0_470 {d : Nat} {l0 l1 l2 l3 : Option PV} {st : List PV} {M : Mem} {Q : Option PV → Mem → Prop} {r : Nat} {j : Int32} (hk : mK M r = 13) (hj : inb j (mN M r)) : WP d 0 470 [l0, l1, l2, l3] (vi j :: vr r :: st) M Q = WP d 0 471 [l0, l1, l2, l3] (vi (mI M r (ix j)) :: st) M Q := w_sld mC_0 d0_470 hk hj
theorem d0_471 : decode cL_law 471 = .ok (.aload_n 0, 1) := by decide +kernel
theorem k0_471 {d x : Nat} {l1 l2 l3 : Option PV} {st : List PV} {M : Mem} {Q : Option PV → Mem → Prop} : WP d 0 471 [some (vr x), l1, l2, l3] (st) M Q = WP d 0 472 [some (vr x), l1, l2, l3] (vr x :: st) M Q := w1 mC_0 d0_471 rfl rfl
theorem d0_472 : decode cL_law 472 = .ok (.iload_n 3, 1) := by decide +kernel
theorem k0_472 {d : Nat} {x : Int32} {l0 l1 l2 : Option PV} {st : List PV} {M : Mem} {Q : Option PV → Mem → Prop} : WP d 0 472 [l0, l1, l2, some (vi x)] (st) M Q = WP d 0 473 [l0, l1, l2, some (vi x)] (vi x :: st) M Q := w1 mC_0 d0_472 rfl rfl
theorem d0_473 : decode cL_law 473 = .ok (.iconst 2, 1) := by decide +kernel
theorem k0_473 {d : Nat} {l0 l1 l2 l3 : Option PV} {st : List PV} {M : Mem} {Q : Option PV → Mem → Prop} : WP d 0 473 [l0, l1, l2, l3] (st) M Q = WP d 0 474 [l0, l1, l2, l3] (vi 2 :: st) M Q := w_iconst mC_0 d0_473 (by decide)
theorem d0_474 : decode cL_law 474 = .ok (.iadd, 1) := by decide +kernel
theorem k0_474 {d : Nat} {l0 l1 l2 l3 : Option PV} {st : List PV} {M : Mem} {Q : Option PV → Mem → Prop} {x y : Int32} : WP d 0 474 [l0, l1, l2, l3] (vi y :: vi x :: st) M Q = WP d 0 475 [l0, l1, l2, l3] (vi (x + y) :: st) M Q := w1 mC_0 d0_474 rfl rfl
theorem d0_475 : decode cL_law 475 = .ok (.iaload, 1) := by decide +kernel
theorem k0_475 {d : Nat} {l0 l1 l2 l3 : Option PV} {st : List PV} {M : Mem} {Q : Option PV → Mem → Prop} {r : Nat} {j : Int32} (hk : mK M r = 13) (hj : inb j (mN M r)) : WP d 0 475 [l0, l1, l2, l3] (vi j :: vr r :: st) M Q = WP d 0 476 [l0, l1, l2, l3] (vi (mI M r (ix j)) :: st) M Q := w_sld mC_0 d0_475 hk hj
theorem d0_476 : decode cL_law 476 = .ok (.aload_n 0, 1) := by decide +kernel
theorem k0_476 {d x : Nat} {l1 l2 l3 : Option PV} {st : List PV} {M : Mem} {Q : Option PV → Mem → Prop} : WP d 0 476 [some (vr x), l1, l2, l3] (st) M Q = WP d 0 477 [some (vr x), l1, l2, l3] (vr x :: st) M Q := w1 mC_0 d0_476 rfl rfl
theorem d0_477 : decode cL_law 477 = .ok (.iload_n 3, 1) := by decide +kernel
theorem k0_477 {d : Nat} {x : Int32} {l0 l1 l2 : Option PV} {st : List PV} {M : Mem} {Q : Option PV → Mem → Prop} : WP d 0 477 [l0, l1, l2, some (vi x)] (st) M Q = WP d 0 478 [l0, l1, l2, some (vi x)] (vi x :: st) M Q := w1 mC_0 d0_477 rfl rfl
theorem d0_478 : decode cL_law 478 = .ok (.iconst 3, 1) := by decide +kernel
theorem k0_478 {d : Nat} {l0 l1 l2 l3 : Option PV} {st : List PV} {M : Mem} {Q : Option PV → Mem → Prop} : WP d 0 478 [l0, l1, l2, l3] (st) M Q = WP d 0 479 [l0, l1, l2, l3] (vi 3 :: st) M Q := w_iconst mC_0 d0_478 (by decide)
theorem d0_479 : decode cL_law 479 = .ok (.iadd, 1) := by decide +kernel
theorem k0_479 {d : Nat} {l0 l1 l2 l3 : Option PV} {st : List PV} {M : Mem} {Q : Option PV → Mem → Prop} {x y : Int32} : WP d 0 479 [l0, l1, l2, l3] (vi y :: vi x :: st) M Q = WP d 0 480 [l0, l1, l2, l3] (vi (x + y) :: st) M Q := w1 mC_0 d0_479 rfl rfl
theorem d0_480 : decode cL_law 480 = .ok (.iaload, 1) := by decide +kernel
theorem k0_480 {d : Nat} {l0 l1 l2 l3 : Option PV} {st : List PV} {M : Mem} {Q : Option PV → Mem → Prop} {r : Nat} {j : Int32} (hk : mK M r = 13) (hj : inb j (mN M r)) : WP d 0 480 [l0, l1, l2, l3] (vi j :: vr r :: st) M Q = WP d 0 481 [l0, l1, l2, l3] (vi (mI M r (ix j)) :: st) M Q := w_sld mC_0 d0_480 hk hj
theorem d0_481 : decode cL_law 481 = .ok (.invokevirtual 52, 3) := by decide +kernel
theorem k0_481 {d : Nat} {l0 l1 l2 l3 : Option PV} {st : List PV} {M : Mem} {Q : Option PV → Mem → Prop} {a0 a1 a2 : Int32} {r : Nat} (hl : szL st ≤ 8) (hk : mK M r = 12) : WP (d + 1) 0 481 [l0, l1, l2, l3] (vi a2 :: vi a1 :: vi a0 :: vr r :: st) M Q = WP d 195 0 [some (vr r), some (vi a0), some (vi a1), some (vi a2), none] [] M (fun v M' => WP (d + 1) 0 484 [l0, l1, l2, l3] (psh v st) M' Q) := w_callV mC_0 d0_481 (ci := 12) rfl rfl rfl (Nat.le_of_ble_eq_true rfl) (by decide) rfl hl hk
theorem d0_484 : decode cL_law 484 = .ok (.if_icmp .eq 1012, 3) := by decide +kernel
theorem k0_484 {d : Nat} {l0 l1 l2 l3 : Option PV} {st : List PV} {M : Mem} {Q : Option PV → Mem → Prop} {x y : Int32} : WP d 0 484 [l0, l1, l2, l3] (vi y :: vi x :: st) M Q = (if x = y then WP d 0 1496 [l0, l1, l2, l3] (st) M Q else WP d 0 487 [l0, l1, l2, l3] (st) M Q) := w_ic_eq mC_0 d0_484 (by decide)
theorem d0_487 : decode cL_law 487 = .ok (.iconst 0, 1) := by decide +kernel
theorem k0_487 {d : Nat} {l0 l1 l2 l3 : Option PV} {st : List PV} {M : Mem} {Q : Option PV → Mem → Prop} : WP d 0 487 [l0, l1, l2, l3] (st) M Q = WP d 0 488 [l0, l1, l2, l3] (vi 0 :: st) M Q := w_iconst mC_0 d0_487 (by decide)
theorem d0_488 : decode cL_law 488 = .ok (.ireturn, 1) := by decide +kernel
theorem k0_488 {d : Nat} {l0 l1 l2 l3 : Option PV} {M : Mem} {Q : Option PV → Mem → Prop} {x : Int32} (hx : x = 0 ∨ x = 1) : WP d 0 488 [l0, l1, l2, l3] ([vi x]) M Q = Q (some (vi x)) M := w_zret mC_0 d0_488 rfl hx
theorem d0_489 : decode cL_law 489 = .ok (.aload_n 1, 1) := by decide +kernel
theorem k0_489 {d x : Nat} {l0 l2 l3 : Option PV} {st : List PV} {M : Mem} {Q : Option PV → Mem → Prop} : WP d 0 489 [l0, some (vr x), l2, l3] (st) M Q = WP d 0 490 [l0, some (vr x), l2, l3] (vr x :: st) M Q := w1 mC_0 d0_489 rfl rfl
theorem d0_490 : decode cL_law 490 = .ok (.aload_n 0, 1) := by decide +kernel
theorem k0_490 {d x : Nat} {l1 l2 l3 : Option PV} {st : List PV} {M : Mem} {Q : Option PV → Mem → Prop} : WP d 0 490 [some (vr x), l1, l2, l3] (st) M Q = WP d 0 491 [some (vr x), l1, l2, l3] (vr x :: st) M Q := w1 mC_0 d0_490 rfl rfl
theorem d0_491 : decode cL_law 491 = .ok (.iload_n 3, 1) := by decide +kernel
theorem k0_491 {d : Nat} {x : Int32} {l0 l1 l2 : Option PV} {st : List PV} {M : Mem} {Q : Option PV → Mem → Prop} : WP d 0 491 [l0, l1, l2, some (vi x)] (st) M Q = WP d 0 492 [l0, l1, l2, some (vi x)] (vi x :: st) M Q := w1 mC_0 d0_491 rfl rfl
theorem d0_492 : decode cL_law 492 = .ok (.iconst 1, 1) := by decide +kernel
theorem k0_492 {d : Nat} {l0 l1 l2 l3 : Option PV} {st : List PV} {M : Mem} {Q : Option PV → Mem → Prop} : WP d 0 492 [l0, l1, l2, l3] (st) M Q = WP d 0 493 [l0, l1, l2, l3] (vi 1 :: st) M Q := w_iconst mC_0 d0_492 (by decide)
theorem d0_493 : decode cL_law 493 = .ok (.iadd, 1) := by decide +kernel
theorem k0_493 {d : Nat} {l0 l1 l2 l3 : Option PV} {st : List PV} {M : Mem} {Q : Option PV → Mem → Prop} {x y : Int32} : WP d 0 493 [l0, l1, l2, l3] (vi y :: vi x :: st) M Q = WP d 0 494 [l0, l1, l2, l3] (vi (x + y) :: st) M Q := w1 mC_0 d0_493 rfl rfl
theorem d0_494 : decode cL_law 494 = .ok (.iaload, 1) := by decide +kernel
theorem k0_494 {d : Nat} {l0 l1 l2 l3 : Option PV} {st : List PV} {M : Mem} {Q : Option PV → Mem → Prop} {r : Nat} {j : Int32} (hk : mK M r = 13) (hj : inb j (mN M r)) : WP d 0 494 [l0, l1, l2, l3] (vi j :: vr r :: st) M Q = WP d 0 495 [l0, l1, l2, l3] (vi (mI M r (ix j)) :: st) M Q := w_sld mC_0 d0_494 hk hj
theorem d0_495 : decode cL_law 495 = .ok (.aload_n 0, 1) := by decide +kernel
theorem k0_495 {d x : Nat} {l1 l2 l3 : Option PV} {st : List PV} {M : Mem} {Q : Option PV → Mem → Prop} : WP d 0 495 [some (vr x), l1, l2, l3] (st) M Q = WP d 0 496 [some (vr x), l1, l2, l3] (vr x :: st) M Q := w1 mC_0 d0_495 rfl rfl
theorem d0_496 : decode cL_law 496 = .ok (.iload_n 3, 1) := by decide +kernel
theorem k0_496 {d : Nat} {x : Int32} {l0 l1 l2 : Option PV} {st : List PV} {M : Mem} {Q : Option PV → Mem → Prop} : WP d 0 496 [l0, l1, l2, some (vi x)] (st) M Q = WP d 0 497 [l0, l1, l2, some (vi x)] (vi x :: st) M Q := w1 mC_0 d0_496 rfl rfl
theorem d0_497 : decode cL_law 497 = .ok (.iconst 2, 1) := by decide +kernel
theorem k0_497 {d : Nat} {l0 l1 l2 l3 : Option PV} {st : List PV} {M : Mem} {Q : Option PV → Mem → Prop} : WP d 0 497 [l0, l1, l2, l3] (st) M Q = WP d 0 498 [l0, l1, l2, l3] (vi 2 :: st) M Q := w_iconst mC_0 d0_497 (by decide)
theorem d0_498 : decode cL_law 498 = .ok (.iadd, 1) := by decide +kernel
theorem k0_498 {d : Nat} {l0 l1 l2 l3 : Option PV} {st : List PV} {M : Mem} {Q : Option PV → Mem → Prop} {x y : Int32} : WP d 0 498 [l0, l1, l2, l3] (vi y :: vi x :: st) M Q = WP d 0 499 [l0, l1, l2, l3] (vi (x + y) :: st) M Q := w1 mC_0 d0_498 rfl rfl
theorem d0_499 : decode cL_law 499 = .ok (.iaload, 1) := by decide +kernel
theorem k0_499 {d : Nat} {l0 l1 l2 l3 : Option PV} {st : List PV} {M : Mem} {Q : Option PV → Mem → Prop} {r : Nat} {j : Int32} (hk : mK M r = 13) (hj : inb j (mN M r)) : WP d 0 499 [l0, l1, l2, l3] (vi j :: vr r :: st) M Q = WP d 0 500 [l0, l1, l2, l3] (vi (mI M r (ix j)) :: st) M Q := w_sld mC_0 d0_499 hk hj
theorem d0_500 : decode cL_law 500 = .ok (.invokevirtual 53, 3) := by decide +kernel
theorem k0_500 {d : Nat} {l0 l1 l2 l3 : Option PV} {st : List PV} {M : Mem} {Q : Option PV → Mem → Prop} {a0 a1 : Int32} {r : Nat} (hl : szL st ≤ 8) (hk : mK M r = 11) : WP (d + 1) 0 500 [l0, l1, l2, l3] (vi a1 :: vi a0 :: vr r :: st) M Q = WP d 83 0 [some (vr r), some (vi a0), some (vi a1)] [] M (fun v M' => WP (d + 1) 0 503 [l0, l1, l2, l3] (psh v st) M' Q) := w_callV mC_0 d0_500 (ci := 11) rfl rfl rfl (Nat.le_of_ble_eq_true rfl) (by decide) rfl hl hk
theorem d0_503 : decode cL_law 503 = .ok (.aload_n 2, 1) := by decide +kernel
theorem k0_503 {d x : Nat} {l0 l1 l3 : Option PV} {st : List PV} {M : Mem} {Q : Option PV → Mem → Prop} : WP d 0 503 [l0, l1, some (vr x), l3] (st) M Q = WP d 0 504 [l0, l1, some (vr x), l3] (vr x :: st) M Q := w1 mC_0 d0_503 rfl rfl
theorem d0_504 : decode cL_law 504 = .ok (.aload_n 0, 1) := by decide +kernel
theorem k0_504 {d x : Nat} {l1 l2 l3 : Option PV} {st : List PV} {M : Mem} {Q : Option PV → Mem → Prop} : WP d 0 504 [some (vr x), l1, l2, l3] (st) M Q = WP d 0 505 [some (vr x), l1, l2, l3] (vr x :: st) M Q := w1 mC_0 d0_504 rfl rfl
theorem d0_505 : decode cL_law 505 = .ok (.iload_n 3, 1) := by decide +kernel
theorem k0_505 {d : Nat} {x : Int32} {l0 l1 l2 : Option PV} {st : List PV} {M : Mem} {Q : Option PV → Mem → Prop} : WP d 0 505 [l0, l1, l2, some (vi x)] (st) M Q = WP d 0 506 [l0, l1, l2, some (vi x)] (vi x :: st) M Q := w1 mC_0 d0_505 rfl rfl
theorem d0_506 : decode cL_law 506 = .ok (.iconst 1, 1) := by decide +kernel
theorem k0_506 {d : Nat} {l0 l1 l2 l3 : Option PV} {st : List PV} {M : Mem} {Q : Option PV → Mem → Prop} : WP d 0 506 [l0, l1, l2, l3] (st) M Q = WP d 0 507 [l0, l1, l2, l3] (vi 1 :: st) M Q := w_iconst mC_0 d0_506 (by decide)
theorem d0_507 : decode cL_law 507 = .ok (.iadd, 1) := by decide +kernel
theorem k0_507 {d : Nat} {l0 l1 l2 l3 : Option PV} {st : List PV} {M : Mem} {Q : Option PV → Mem → Prop} {x y : Int32} : WP d 0 507 [l0, l1, l2, l3] (vi y :: vi x :: st) M Q = WP d 0 508 [l0, l1, l2, l3] (vi (x + y) :: st) M Q := w1 mC_0 d0_507 rfl rfl
theorem d0_508 : decode cL_law 508 = .ok (.iaload, 1) := by decide +kernel
theorem k0_508 {d : Nat} {l0 l1 l2 l3 : Option PV} {st : List PV} {M : Mem} {Q : Option PV → Mem → Prop} {r : Nat} {j : Int32} (hk : mK M r = 13) (hj : inb j (mN M r)) : WP d 0 508 [l0, l1, l2, l3] (vi j :: vr r :: st) M Q = WP d 0 509 [l0, l1, l2, l3] (vi (mI M r (ix j)) :: st) M Q := w_sld mC_0 d0_508 hk hj
theorem d0_509 : decode cL_law 509 = .ok (.aload_n 0, 1) := by decide +kernel
theorem k0_509 {d x : Nat} {l1 l2 l3 : Option PV} {st : List PV} {M : Mem} {Q : Option PV → Mem → Prop} : WP d 0 509 [some (vr x), l1, l2, l3] (st) M Q = WP d 0 510 [some (vr x), l1, l2, l3] (vr x :: st) M Q := w1 mC_0 d0_509 rfl rfl
theorem d0_510 : decode cL_law 510 = .ok (.iload_n 3, 1) := by decide +kernel
theorem k0_510 {d : Nat} {x : Int32} {l0 l1 l2 : Option PV} {st : List PV} {M : Mem} {Q : Option PV → Mem → Prop} : WP d 0 510 [l0, l1, l2, some (vi x)] (st) M Q = WP d 0 511 [l0, l1, l2, some (vi x)] (vi x :: st) M Q := w1 mC_0 d0_510 rfl rfl
theorem d0_511 : decode cL_law 511 = .ok (.iconst 2, 1) := by decide +kernel
theorem k0_511 {d : Nat} {l0 l1 l2 l3 : Option PV} {st : List PV} {M : Mem} {Q : Option PV → Mem → Prop} : WP d 0 511 [l0, l1, l2, l3] (st) M Q = WP d 0 512 [l0, l1, l2, l3] (vi 2 :: st) M Q := w_iconst mC_0 d0_511 (by decide)
theorem d0_512 : decode cL_law 512 = .ok (.iadd, 1) := by decide +kernel
theorem k0_512 {d : Nat} {l0 l1 l2 l3 : Option PV} {st : List PV} {M : Mem} {Q : Option PV → Mem → Prop} {x y : Int32} : WP d 0 512 [l0, l1, l2, l3] (vi y :: vi x :: st) M Q = WP d 0 513 [l0, l1, l2, l3] (vi (x + y) :: st) M Q := w1 mC_0 d0_512 rfl rfl
theorem d0_513 : decode cL_law 513 = .ok (.iaload, 1) := by decide +kernel
theorem k0_513 {d : Nat} {l0 l1 l2 l3 : Option PV} {st : List PV} {M : Mem} {Q : Option PV → Mem → Prop} {r : Nat} {j : Int32} (hk : mK M r = 13) (hj : inb j (mN M r)) : WP d 0 513 [l0, l1, l2, l3] (vi j :: vr r :: st) M Q = WP d 0 514 [l0, l1, l2, l3] (vi (mI M r (ix j)) :: st) M Q := w_sld mC_0 d0_513 hk hj
theorem d0_514 : decode cL_law 514 = .ok (.invokevirtual 56, 3) := by decide +kernel
theorem k0_514 {d : Nat} {l0 l1 l2 l3 : Option PV} {st : List PV} {M : Mem} {Q : Option PV → Mem → Prop} {a0 a1 : Int32} {r : Nat} (hl : szL st ≤ 8) (hk : mK M r = 12) : WP (d + 1) 0 514 [l0, l1, l2, l3] (vi a1 :: vi a0 :: vr r :: st) M Q = WP d 196 0 [some (vr r), some (vi a0), some (vi a1), none] [] M (fun v M' => WP (d + 1) 0 517 [l0, l1, l2, l3] (psh v st) M' Q) := w_callV mC_0 d0_514 (ci := 12) rfl rfl rfl (Nat.le_of_ble_eq_true rfl) (by decide) rfl hl hk
theorem d0_517 : decode cL_law 517 = .ok (.if_icmp .eq 979, 3) := by decide +kernel
theorem k0_517 {d : Nat} {l0 l1 l2 l3 : Option PV} {st : List PV} {M : Mem} {Q : Option PV → Mem → Prop} {x y : Int32} : WP d 0 517 [l0, l1, l2, l3] (vi y :: vi x :: st) M Q = (if x = y then WP d 0 1496 [l0, l1, l2, l3] (st) M Q else WP d 0 520 [l0, l1, l2, l3] (st) M Q) := w_ic_eq mC_0 d0_517 (by decide)
theorem d0_520 : decode cL_law 520 = .ok (.iconst 0, 1) := by decide +kernel
theorem k0_520 {d : Nat} {l0 l1 l2 l3 : Option PV} {st : List PV} {M : Mem} {Q : Option PV → Mem → Prop} : WP d 0 520 [l0, l1, l2, l3] (st) M Q = WP d 0 521 [l0, l1, l2, l3] (vi 0 :: st) M Q := w_iconst mC_0 d0_520 (by decide)
theorem d0_521 : decode cL_law 521 = .ok (.ireturn, 1) := by decide +kernel
theorem k0_521 {d : Nat} {l0 l1 l2 l3 : Option PV} {M : Mem} {Q : Option PV → Mem → Prop} {x : Int32} (hx : x = 0 ∨ x = 1) : WP d 0 521 [l0, l1, l2, l3] ([vi x]) M Q = Q (some (vi x)) M := w_zret mC_0 d0_521 rfl hx
theorem d0_522 : decode cL_law 522 = .ok (.aload_n 1, 1) := by decide +kernel
theorem k0_522 {d x : Nat} {l0 l2 l3 : Option PV} {st : List PV} {M : Mem} {Q : Option PV → Mem → Prop} : WP d 0 522 [l0, some (vr x), l2, l3] (st) M Q = WP d 0 523 [l0, some (vr x), l2, l3] (vr x :: st) M Q := w1 mC_0 d0_522 rfl rfl
theorem d0_523 : decode cL_law 523 = .ok (.aload_n 0, 1) := by decide +kernel
theorem k0_523 {d x : Nat} {l1 l2 l3 : Option PV} {st : List PV} {M : Mem} {Q : Option PV → Mem → Prop} : WP d 0 523 [some (vr x), l1, l2, l3] (st) M Q = WP d 0 524 [some (vr x), l1, l2, l3] (vr x :: st) M Q := w1 mC_0 d0_523 rfl rfl
theorem d0_524 : decode cL_law 524 = .ok (.iload_n 3, 1) := by decide +kernel
theorem k0_524 {d : Nat} {x : Int32} {l0 l1 l2 : Option PV} {st : List PV} {M : Mem} {Q : Option PV → Mem → Prop} : WP d 0 524 [l0, l1, l2, some (vi x)] (st) M Q = WP d 0 525 [l0, l1, l2, some (vi x)] (vi x :: st) M Q := w1 mC_0 d0_524 rfl rfl
theorem d0_525 : decode cL_law 525 = .ok (.iconst 1, 1) := by decide +kernel
theorem k0_525 {d : Nat} {l0 l1 l2 l3 : Option PV} {st : List PV} {M : Mem} {Q : Option PV → Mem → Prop} : WP d 0 525 [l0, l1, l2, l3] (st) M Q = WP d 0 526 [l0, l1, l2, l3] (vi 1 :: st) M Q := w_iconst mC_0 d0_525 (by decide)
theorem d0_526 : decode cL_law 526 = .ok (.iadd, 1) := by decide +kernel
theorem k0_526 {d : Nat} {l0 l1 l2 l3 : Option PV} {st : List PV} {M : Mem} {Q : Option PV → Mem → Prop} {x y : Int32} : WP d 0 526 [l0, l1, l2, l3] (vi y :: vi x :: st) M Q = WP d 0 527 [l0, l1, l2, l3] (vi (x + y) :: st) M Q := w1 mC_0 d0_526 rfl rfl
theorem d0_527 : decode cL_law 527 = .ok (.iaload, 1) := by decide +kernel
theorem k0_527 {d : Nat} {l0 l1 l2 l3 : Option PV} {st : List PV} {M : Mem} {Q : Option PV → Mem → Prop} {r : Nat} {j : Int32} (hk : mK M r = 13) (hj : inb j (mN M r)) : WP d 0 527 [l0, l1, l2, l3] (vi j :: vr r :: st) M Q = WP d 0 528 [l0, l1, l2, l3] (vi (mI M r (ix j)) :: st) M Q := w_sld mC_0 d0_527 hk hj
theorem d0_528 : decode cL_law 528 = .ok (.invokevirtual 57, 3) := by decide +kernel
theorem k0_528 {d : Nat} {l0 l1 l2 l3 : Option PV} {st : List PV} {M : Mem} {Q : Option PV → Mem → Prop} {a0 : Int32} {r : Nat} (hl : szL st ≤ 8) (hk : mK M r = 11) : WP (d + 1) 0 528 [l0, l1, l2, l3] (vi a0 :: vr r :: st) M Q = WP d 84 0 [some (vr r), some (vi a0), none, none] [] M (fun v M' => WP (d + 1) 0 531 [l0, l1, l2, l3] (psh v st) M' Q) := w_callV mC_0 d0_528 (ci := 11) rfl rfl rfl (Nat.le_of_ble_eq_true rfl) (by decide) rfl hl hk
theorem d0_531 : decode cL_law 531 = .ok (.aload_n 2, 1) := by decide +kernel
theorem k0_531 {d x : Nat} {l0 l1 l3 : Option PV} {st : List PV} {M : Mem} {Q : Option PV → Mem → Prop} : WP d 0 531 [l0, l1, some (vr x), l3] (st) M Q = WP d 0 532 [l0, l1, some (vr x), l3] (vr x :: st) M Q := w1 mC_0 d0_531 rfl rfl
theorem d0_532 : decode cL_law 532 = .ok (.aload_n 0, 1) := by decide +kernel
theorem k0_532 {d x : Nat} {l1 l2 l3 : Option PV} {st : List PV} {M : Mem} {Q : Option PV → Mem → Prop} : WP d 0 532 [some (vr x), l1, l2, l3] (st) M Q = WP d 0 533 [some (vr x), l1, l2, l3] (vr x :: st) M Q := w1 mC_0 d0_532 rfl rfl
theorem d0_533 : decode cL_law 533 = .ok (.iload_n 3, 1) := by decide +kernel
theorem k0_533 {d : Nat} {x : Int32} {l0 l1 l2 : Option PV} {st : List PV} {M : Mem} {Q : Option PV → Mem → Prop} : WP d 0 533 [l0, l1, l2, some (vi x)] (st) M Q = WP d 0 534 [l0, l1, l2, some (vi x)] (vi x :: st) M Q := w1 mC_0 d0_533 rfl rfl
theorem d0_534 : decode cL_law 534 = .ok (.iconst 1, 1) := by decide +kernel
theorem k0_534 {d : Nat} {l0 l1 l2 l3 : Option PV} {st : List PV} {M : Mem} {Q : Option PV → Mem → Prop} : WP d 0 534 [l0, l1, l2, l3] (st) M Q = WP d 0 535 [l0, l1, l2, l3] (vi 1 :: st) M Q := w_iconst mC_0 d0_534 (by decide)
theorem d0_535 : decode cL_law 535 = .ok (.iadd, 1) := by decide +kernel
theorem k0_535 {d : Nat} {l0 l1 l2 l3 : Option PV} {st : List PV} {M : Mem} {Q : Option PV → Mem → Prop} {x y : Int32} : WP d 0 535 [l0, l1, l2, l3] (vi y :: vi x :: st) M Q = WP d 0 536 [l0, l1, l2, l3] (vi (x + y) :: st) M Q := w1 mC_0 d0_535 rfl rfl
theorem d0_536 : decode cL_law 536 = .ok (.iaload, 1) := by decide +kernel
theorem k0_536 {d : Nat} {l0 l1 l2 l3 : Option PV} {st : List PV} {M : Mem} {Q : Option PV → Mem → Prop} {r : Nat} {j : Int32} (hk : mK M r = 13) (hj : inb j (mN M r)) : WP d 0 536 [l0, l1, l2, l3] (vi j :: vr r :: st) M Q = WP d 0 537 [l0, l1, l2, l3] (vi (mI M r (ix j)) :: st) M Q := w_sld mC_0 d0_536 hk hj
theorem d0_537 : decode cL_law 537 = .ok (.invokevirtual 60, 3) := by decide +kernel
theorem k0_537 {d : Nat} {l0 l1 l2 l3 : Option PV} {st : List PV} {M : Mem} {Q : Option PV → Mem → Prop} {a0 : Int32} {r : Nat} (hl : szL st ≤ 8) (hk : mK M r = 12) : WP (d + 1) 0 537 [l0, l1, l2, l3] (vi a0 :: vr r :: st) M Q = WP d 197 0 [some (vr r), some (vi a0), none, none] [] M (fun v M' => WP (d + 1) 0 540 [l0, l1, l2, l3] (psh v st) M' Q) := w_callV mC_0 d0_537 (ci := 12) rfl rfl rfl (Nat.le_of_ble_eq_true rfl) (by decide) rfl hl hk
theorem d0_540 : decode cL_law 540 = .ok (.if_icmp .eq 956, 3) := by decide +kernel
theorem k0_540 {d : Nat} {l0 l1 l2 l3 : Option PV} {st : List PV} {M : Mem} {Q : Option PV → Mem → Prop} {x y : Int32} : WP d 0 540 [l0, l1, l2, l3] (vi y :: vi x :: st) M Q = (if x = y then WP d 0 1496 [l0, l1, l2, l3] (st) M Q else WP d 0 543 [l0, l1, l2, l3] (st) M Q) := w_ic_eq mC_0 d0_540 (by decide)
theorem d0_543 : decode cL_law 543 = .ok (.iconst 0, 1) := by decide +kernel
theorem k0_543 {d : Nat} {l0 l1 l2 l3 : Option PV} {st : List PV} {M : Mem} {Q : Option PV → Mem → Prop} : WP d 0 543 [l0, l1, l2, l3] (st) M Q = WP d 0 544 [l0, l1, l2, l3] (vi 0 :: st) M Q := w_iconst mC_0 d0_543 (by decide)
theorem d0_544 : decode cL_law 544 = .ok (.ireturn, 1) := by decide +kernel
theorem k0_544 {d : Nat} {l0 l1 l2 l3 : Option PV} {M : Mem} {Q : Option PV → Mem → Prop} {x : Int32} (hx : x = 0 ∨ x = 1) : WP d 0 544 [l0, l1, l2, l3] ([vi x]) M Q = Q (some (vi x)) M := w_zret mC_0 d0_544 rfl hx
theorem d0_545 : decode cL_law 545 = .ok (.aload_n 1, 1) := by decide +kernel
theorem k0_545 {d x : Nat} {l0 l2 l3 : Option PV} {st : List PV} {M : Mem} {Q : Option PV → Mem → Prop} : WP d 0 545 [l0, some (vr x), l2, l3] (st) M Q = WP d 0 546 [l0, some (vr x), l2, l3] (vr x :: st) M Q := w1 mC_0 d0_545 rfl rfl
theorem d0_546 : decode cL_law 546 = .ok (.aload_n 0, 1) := by decide +kernel
theorem k0_546 {d x : Nat} {l1 l2 l3 : Option PV} {st : List PV} {M : Mem} {Q : Option PV → Mem → Prop} : WP d 0 546 [some (vr x), l1, l2, l3] (st) M Q = WP d 0 547 [some (vr x), l1, l2, l3] (vr x :: st) M Q := w1 mC_0 d0_546 rfl rfl
theorem d0_547 : decode cL_law 547 = .ok (.iload_n 3, 1) := by decide +kernel
theorem k0_547 {d : Nat} {x : Int32} {l0 l1 l2 : Option PV} {st : List PV} {M : Mem} {Q : Option PV → Mem → Prop} : WP d 0 547 [l0, l1, l2, some (vi x)] (st) M Q = WP d 0 548 [l0, l1, l2, some (vi x)] (vi x :: st) M Q := w1 mC_0 d0_547 rfl rfl
theorem d0_548 : decode cL_law 548 = .ok (.iconst 1, 1) := by decide +kernel
theorem k0_548 {d : Nat} {l0 l1 l2 l3 : Option PV} {st : List PV} {M : Mem} {Q : Option PV → Mem → Prop} : WP d 0 548 [l0, l1, l2, l3] (st) M Q = WP d 0 549 [l0, l1, l2, l3] (vi 1 :: st) M Q := w_iconst mC_0 d0_548 (by decide)
theorem d0_549 : decode cL_law 549 = .ok (.iadd, 1) := by decide +kernel
theorem k0_549 {d : Nat} {l0 l1 l2 l3 : Option PV} {st : List PV} {M : Mem} {Q : Option PV → Mem → Prop} {x y : Int32} : WP d 0 549 [l0, l1, l2, l3] (vi y :: vi x :: st) M Q = WP d 0 550 [l0, l1, l2, l3] (vi (x + y) :: st) M Q := w1 mC_0 d0_549 rfl rfl
theorem d0_550 : decode cL_law 550 = .ok (.iaload, 1) := by decide +kernel
theorem k0_550 {d : Nat} {l0 l1 l2 l3 : Option PV} {st : List PV} {M : Mem} {Q : Option PV → Mem → Prop} {r : Nat} {j : Int32} (hk : mK M r = 13) (hj : inb j (mN M r)) : WP d 0 550 [l0, l1, l2, l3] (vi j :: vr r :: st) M Q = WP d 0 551 [l0, l1, l2, l3] (vi (mI M r (ix j)) :: st) M Q := w_sld mC_0 d0_550 hk hj
theorem d0_551 : decode cL_law 551 = .ok (.aload_n 0, 1) := by decide +kernel
theorem k0_551 {d x : Nat} {l1 l2 l3 : Option PV} {st : List PV} {M : Mem} {Q : Option PV → Mem → Prop} : WP d 0 551 [some (vr x), l1, l2, l3] (st) M Q = WP d 0 552 [some (vr x), l1, l2, l3] (vr x :: st) M Q := w1 mC_0 d0_551 rfl rfl
theorem d0_552 : decode cL_law 552 = .ok (.iload_n 3, 1) := by decide +kernel
theorem k0_552 {d : Nat} {x : Int32} {l0 l1 l2 : Option PV} {st : List PV} {M : Mem} {Q : Option PV → Mem → Prop} : WP d 0 552 [l0, l1, l2, some (vi x)] (st) M Q = WP d 0 553 [l0, l1, l2, some (vi x)] (vi x :: st) M Q := w1 mC_0 d0_552 rfl rfl
theorem d0_553 : decode cL_law 553 = .ok (.iconst 2, 1) := by decide +kernel
theorem k0_553 {d : Nat} {l0 l1 l2 l3 : Option PV} {st : List PV} {M : Mem} {Q : Option PV → Mem → Prop} : WP d 0 553 [l0, l1, l2, l3] (st) M Q = WP d 0 554 [l0, l1, l2, l3] (vi 2 :: st) M Q := w_iconst mC_0 d0_553 (by decide)
theorem d0_554 : decode cL_law 554 = .ok (.iadd, 1) := by decide +kernel
theorem k0_554 {d : Nat} {l0 l1 l2 l3 : Option PV} {st : List PV} {M : Mem} {Q : Option PV → Mem → Prop} {x y : Int32} : WP d 0 554 [l0, l1, l2, l3] (vi y :: vi x :: st) M Q = WP d 0 555 [l0, l1, l2, l3] (vi (x + y) :: st) M Q := w1 mC_0 d0_554 rfl rfl
theorem d0_555 : decode cL_law 555 = .ok (.iaload, 1) := by decide +kernel
theorem k0_555 {d : Nat} {l0 l1 l2 l3 : Option PV} {st : List PV} {M : Mem} {Q : Option PV → Mem → Prop} {r : Nat} {j : Int32} (hk : mK M r = 13) (hj : inb j (mN M r)) : WP d 0 555 [l0, l1, l2, l3] (vi j :: vr r :: st) M Q = WP d 0 556 [l0, l1, l2, l3] (vi (mI M r (ix j)) :: st) M Q := w_sld mC_0 d0_555 hk hj
theorem d0_556 : decode cL_law 556 = .ok (.aload_n 0, 1) := by decide +kernel
theorem k0_556 {d x : Nat} {l1 l2 l3 : Option PV} {st : List PV} {M : Mem} {Q : Option PV → Mem → Prop} : WP d 0 556 [some (vr x), l1, l2, l3] (st) M Q = WP d 0 557 [some (vr x), l1, l2, l3] (vr x :: st) M Q := w1 mC_0 d0_556 rfl rfl
theorem d0_557 : decode cL_law 557 = .ok (.iload_n 3, 1) := by decide +kernel
theorem k0_557 {d : Nat} {x : Int32} {l0 l1 l2 : Option PV} {st : List PV} {M : Mem} {Q : Option PV → Mem → Prop} : WP d 0 557 [l0, l1, l2, some (vi x)] (st) M Q = WP d 0 558 [l0, l1, l2, some (vi x)] (vi x :: st) M Q := w1 mC_0 d0_557 rfl rfl
theorem d0_558 : decode cL_law 558 = .ok (.iconst 3, 1) := by decide +kernel
theorem k0_558 {d : Nat} {l0 l1 l2 l3 : Option PV} {st : List PV} {M : Mem} {Q : Option PV → Mem → Prop} : WP d 0 558 [l0, l1, l2, l3] (st) M Q = WP d 0 559 [l0, l1, l2, l3] (vi 3 :: st) M Q := w_iconst mC_0 d0_558 (by decide)
theorem d0_559 : decode cL_law 559 = .ok (.iadd, 1) := by decide +kernel
theorem k0_559 {d : Nat} {l0 l1 l2 l3 : Option PV} {st : List PV} {M : Mem} {Q : Option PV → Mem → Prop} {x y : Int32} : WP d 0 559 [l0, l1, l2, l3] (vi y :: vi x :: st) M Q = WP d 0 560 [l0, l1, l2, l3] (vi (x + y) :: st) M Q := w1 mC_0 d0_559 rfl rfl
theorem d0_560 : decode cL_law 560 = .ok (.iaload, 1) := by decide +kernel
theorem k0_560 {d : Nat} {l0 l1 l2 l3 : Option PV} {st : List PV} {M : Mem} {Q : Option PV → Mem → Prop} {r : Nat} {j : Int32} (hk : mK M r = 13) (hj : inb j (mN M r)) : WP d 0 560 [l0, l1, l2, l3] (vi j :: vr r :: st) M Q = WP d 0 561 [l0, l1, l2, l3] (vi (mI M r (ix j)) :: st) M Q := w_sld mC_0 d0_560 hk hj
theorem d0_561 : decode cL_law 561 = .ok (.invokevirtual 61, 3) := by decide +kernel
theorem k0_561 {d : Nat} {l0 l1 l2 l3 : Option PV} {st : List PV} {M : Mem} {Q : Option PV → Mem → Prop} {a0 a1 a2 : Int32} {r : Nat} (hl : szL st ≤ 8) (hk : mK M r = 11) : WP (d + 1) 0 561 [l0, l1, l2, l3] (vi a2 :: vi a1 :: vi a0 :: vr r :: st) M Q = WP d 85 0 [some (vr r), some (vi a0), some (vi a1), some (vi a2)] [] M (fun v M' => WP (d + 1) 0 564 [l0, l1, l2, l3] (psh v st) M' Q) := w_callV mC_0 d0_561 (ci := 11) rfl rfl rfl (Nat.le_of_ble_eq_true rfl) (by decide) rfl hl hk
theorem d0_564 : decode cL_law 564 = .ok (.aload_n 2, 1) := by decide +kernel
theorem k0_564 {d x : Nat} {l0 l1 l3 : Option PV} {st : List PV} {M : Mem} {Q : Option PV → Mem → Prop} : WP d 0 564 [l0, l1, some (vr x), l3] (st) M Q = WP d 0 565 [l0, l1, some (vr x), l3] (vr x :: st) M Q := w1 mC_0 d0_564 rfl rfl
theorem d0_565 : decode cL_law 565 = .ok (.aload_n 0, 1) := by decide +kernel
theorem k0_565 {d x : Nat} {l1 l2 l3 : Option PV} {st : List PV} {M : Mem} {Q : Option PV → Mem → Prop} : WP d 0 565 [some (vr x), l1, l2, l3] (st) M Q = WP d 0 566 [some (vr x), l1, l2, l3] (vr x :: st) M Q := w1 mC_0 d0_565 rfl rfl
theorem d0_566 : decode cL_law 566 = .ok (.iload_n 3, 1) := by decide +kernel
theorem k0_566 {d : Nat} {x : Int32} {l0 l1 l2 : Option PV} {st : List PV} {M : Mem} {Q : Option PV → Mem → Prop} : WP d 0 566 [l0, l1, l2, some (vi x)] (st) M Q = WP d 0 567 [l0, l1, l2, some (vi x)] (vi x :: st) M Q := w1 mC_0 d0_566 rfl rfl
theorem d0_567 : decode cL_law 567 = .ok (.iconst 1, 1) := by decide +kernel
theorem k0_567 {d : Nat} {l0 l1 l2 l3 : Option PV} {st : List PV} {M : Mem} {Q : Option PV → Mem → Prop} : WP d 0 567 [l0, l1, l2, l3] (st) M Q = WP d 0 568 [l0, l1, l2, l3] (vi 1 :: st) M Q := w_iconst mC_0 d0_567 (by decide)
theorem d0_568 : decode cL_law 568 = .ok (.iadd, 1) := by decide +kernel
theorem k0_568 {d : Nat} {l0 l1 l2 l3 : Option PV} {st : List PV} {M : Mem} {Q : Option PV → Mem → Prop} {x y : Int32} : WP d 0 568 [l0, l1, l2, l3] (vi y :: vi x :: st) M Q = WP d 0 569 [l0, l1, l2, l3] (vi (x + y) :: st) M Q := w1 mC_0 d0_568 rfl rfl
theorem d0_569 : decode cL_law 569 = .ok (.iaload, 1) := by decide +kernel
theorem k0_569 {d : Nat} {l0 l1 l2 l3 : Option PV} {st : List PV} {M : Mem} {Q : Option PV → Mem → Prop} {r : Nat} {j : Int32} (hk : mK M r = 13) (hj : inb j (mN M r)) : WP d 0 569 [l0, l1, l2, l3] (vi j :: vr r :: st) M Q = WP d 0 570 [l0, l1, l2, l3] (vi (mI M r (ix j)) :: st) M Q := w_sld mC_0 d0_569 hk hj
theorem d0_570 : decode cL_law 570 = .ok (.aload_n 0, 1) := by decide +kernel
theorem k0_570 {d x : Nat} {l1 l2 l3 : Option PV} {st : List PV} {M : Mem} {Q : Option PV → Mem → Prop} : WP d 0 570 [some (vr x), l1, l2, l3] (st) M Q = WP d 0 571 [some (vr x), l1, l2, l3] (vr x :: st) M Q := w1 mC_0 d0_570 rfl rfl
theorem d0_571 : decode cL_law 571 = .ok (.iload_n 3, 1) := by decide +kernel
theorem k0_571 {d : Nat} {x : Int32} {l0 l1 l2 : Option PV} {st : List PV} {M : Mem} {Q : Option PV → Mem → Prop} : WP d 0 571 [l0, l1, l2, some (vi x)] (st) M Q = WP d 0 572 [l0, l1, l2, some (vi x)] (vi x :: st) M Q := w1 mC_0 d0_571 rfl rfl
theorem d0_572 : decode cL_law 572 = .ok (.iconst 2, 1) := by decide +kernel
theorem k0_572 {d : Nat} {l0 l1 l2 l3 : Option PV} {st : List PV} {M : Mem} {Q : Option PV → Mem → Prop} : WP d 0 572 [l0, l1, l2, l3] (st) M Q = WP d 0 573 [l0, l1, l2, l3] (vi 2 :: st) M Q := w_iconst mC_0 d0_572 (by decide)
theorem d0_573 : decode cL_law 573 = .ok (.iadd, 1) := by decide +kernel
theorem k0_573 {d : Nat} {l0 l1 l2 l3 : Option PV} {st : List PV} {M : Mem} {Q : Option PV → Mem → Prop} {x y : Int32} : WP d 0 573 [l0, l1, l2, l3] (vi y :: vi x :: st) M Q = WP d 0 574 [l0, l1, l2, l3] (vi (x + y) :: st) M Q := w1 mC_0 d0_573 rfl rfl
theorem d0_574 : decode cL_law 574 = .ok (.iaload, 1) := by decide +kernel
theorem k0_574 {d : Nat} {l0 l1 l2 l3 : Option PV} {st : List PV} {M : Mem} {Q : Option PV → Mem → Prop} {r : Nat} {j : Int32} (hk : mK M r = 13) (hj : inb j (mN M r)) : WP d 0 574 [l0, l1, l2, l3] (vi j :: vr r :: st) M Q = WP d 0 575 [l0, l1, l2, l3] (vi (mI M r (ix j)) :: st) M Q := w_sld mC_0 d0_574 hk hj
theorem d0_575 : decode cL_law 575 = .ok (.aload_n 0, 1) := by decide +kernel
theorem k0_575 {d x : Nat} {l1 l2 l3 : Option PV} {st : List PV} {M : Mem} {Q : Option PV → Mem → Prop} : WP d 0 575 [some (vr x), l1, l2, l3] (st) M Q = WP d 0 576 [some (vr x), l1, l2, l3] (vr x :: st) M Q := w1 mC_0 d0_575 rfl rfl
theorem d0_576 : decode cL_law 576 = .ok (.iload_n 3, 1) := by decide +kernel
theorem k0_576 {d : Nat} {x : Int32} {l0 l1 l2 : Option PV} {st : List PV} {M : Mem} {Q : Option PV → Mem → Prop} : WP d 0 576 [l0, l1, l2, some (vi x)] (st) M Q = WP d 0 577 [l0, l1, l2, some (vi x)] (vi x :: st) M Q := w1 mC_0 d0_576 rfl rfl
theorem d0_577 : decode cL_law 577 = .ok (.iconst 3, 1) := by decide +kernel
theorem k0_577 {d : Nat} {l0 l1 l2 l3 : Option PV} {st : List PV} {M : Mem} {Q : Option PV → Mem → Prop} : WP d 0 577 [l0, l1, l2, l3] (st) M Q = WP d 0 578 [l0, l1, l2, l3] (vi 3 :: st) M Q := w_iconst mC_0 d0_577 (by decide)
theorem d0_578 : decode cL_law 578 = .ok (.iadd, 1) := by decide +kernel
theorem k0_578 {d : Nat} {l0 l1 l2 l3 : Option PV} {st : List PV} {M : Mem} {Q : Option PV → Mem → Prop} {x y : Int32} : WP d 0 578 [l0, l1, l2, l3] (vi y :: vi x :: st) M Q = WP d 0 579 [l0, l1, l2, l3] (vi (x + y) :: st) M Q := w1 mC_0 d0_578 rfl rfl
theorem d0_579 : decode cL_law 579 = .ok (.iaload, 1) := by decide +kernel
theorem k0_579 {d : Nat} {l0 l1 l2 l3 : Option PV} {st : List PV} {M : Mem} {Q : Option PV → Mem → Prop} {r : Nat} {j : Int32} (hk : mK M r = 13) (hj : inb j (mN M r)) : WP d 0 579 [l0, l1, l2, l3] (vi j :: vr r :: st) M Q = WP d 0 580 [l0, l1, l2, l3] (vi (mI M r (ix j)) :: st) M Q := w_sld mC_0 d0_579 hk hj
theorem d0_580 : decode cL_law 580 = .ok (.invokevirtual 64, 3) := by decide +kernel
theorem k0_580 {d : Nat} {l0 l1 l2 l3 : Option PV} {st : List PV} {M : Mem} {Q : Option PV → Mem → Prop} {a0 a1 a2 : Int32} {r : Nat} (hl : szL st ≤ 8) (hk : mK M r = 12) : WP (d + 1) 0 580 [l0, l1, l2, l3] (vi a2 :: vi a1 :: vi a0 :: vr r :: st) M Q = WP d 201 0 [some (vr r), some (vi a0), some (vi a1), some (vi a2)] [] M (fun v M' => WP (d + 1) 0 583 [l0, l1, l2, l3] (psh v st) M' Q) := w_callV mC_0 d0_580 (ci := 12) rfl rfl rfl (Nat.le_of_ble_eq_true rfl) (by decide) rfl hl hk
theorem d0_583 : decode cL_law 583 = .ok (.if_icmp .eq 913, 3) := by decide +kernel
theorem k0_583 {d : Nat} {l0 l1 l2 l3 : Option PV} {st : List PV} {M : Mem} {Q : Option PV → Mem → Prop} {x y : Int32} : WP d 0 583 [l0, l1, l2, l3] (vi y :: vi x :: st) M Q = (if x = y then WP d 0 1496 [l0, l1, l2, l3] (st) M Q else WP d 0 586 [l0, l1, l2, l3] (st) M Q) := w_ic_eq mC_0 d0_583 (by decide)
theorem d0_586 : decode cL_law 586 = .ok (.iconst 0, 1) := by decide +kernel
theorem k0_586 {d : Nat} {l0 l1 l2 l3 : Option PV} {st : List PV} {M : Mem} {Q : Option PV → Mem → Prop} : WP d 0 586 [l0, l1, l2, l3] (st) M Q = WP d 0 587 [l0, l1, l2, l3] (vi 0 :: st) M Q := w_iconst mC_0 d0_586 (by decide)
theorem d0_587 : decode cL_law 587 = .ok (.ireturn, 1) := by decide +kernel
theorem k0_587 {d : Nat} {l0 l1 l2 l3 : Option PV} {M : Mem} {Q : Option PV → Mem → Prop} {x : Int32} (hx : x = 0 ∨ x = 1) : WP d 0 587 [l0, l1, l2, l3] ([vi x]) M Q = Q (some (vi x)) M := w_zret mC_0 d0_587 rfl hx
theorem d0_588 : decode cL_law 588 = .ok (.aload_n 1, 1) := by decide +kernel
theorem k0_588 {d x : Nat} {l0 l2 l3 : Option PV} {st : List PV} {M : Mem} {Q : Option PV → Mem → Prop} : WP d 0 588 [l0, some (vr x), l2, l3] (st) M Q = WP d 0 589 [l0, some (vr x), l2, l3] (vr x :: st) M Q := w1 mC_0 d0_588 rfl rfl
theorem d0_589 : decode cL_law 589 = .ok (.aload_n 0, 1) := by decide +kernel
theorem k0_589 {d x : Nat} {l1 l2 l3 : Option PV} {st : List PV} {M : Mem} {Q : Option PV → Mem → Prop} : WP d 0 589 [some (vr x), l1, l2, l3] (st) M Q = WP d 0 590 [some (vr x), l1, l2, l3] (vr x :: st) M Q := w1 mC_0 d0_589 rfl rfl
theorem d0_590 : decode cL_law 590 = .ok (.iload_n 3, 1) := by decide +kernel
theorem k0_590 {d : Nat} {x : Int32} {l0 l1 l2 : Option PV} {st : List PV} {M : Mem} {Q : Option PV → Mem → Prop} : WP d 0 590 [l0, l1, l2, some (vi x)] (st) M Q = WP d 0 591 [l0, l1, l2, some (vi x)] (vi x :: st) M Q := w1 mC_0 d0_590 rfl rfl
theorem d0_591 : decode cL_law 591 = .ok (.iconst 1, 1) := by decide +kernel
theorem k0_591 {d : Nat} {l0 l1 l2 l3 : Option PV} {st : List PV} {M : Mem} {Q : Option PV → Mem → Prop} : WP d 0 591 [l0, l1, l2, l3] (st) M Q = WP d 0 592 [l0, l1, l2, l3] (vi 1 :: st) M Q := w_iconst mC_0 d0_591 (by decide)
theorem d0_592 : decode cL_law 592 = .ok (.iadd, 1) := by decide +kernel
theorem k0_592 {d : Nat} {l0 l1 l2 l3 : Option PV} {st : List PV} {M : Mem} {Q : Option PV → Mem → Prop} {x y : Int32} : WP d 0 592 [l0, l1, l2, l3] (vi y :: vi x :: st) M Q = WP d 0 593 [l0, l1, l2, l3] (vi (x + y) :: st) M Q := w1 mC_0 d0_592 rfl rfl
theorem d0_593 : decode cL_law 593 = .ok (.iaload, 1) := by decide +kernel
theorem k0_593 {d : Nat} {l0 l1 l2 l3 : Option PV} {st : List PV} {M : Mem} {Q : Option PV → Mem → Prop} {r : Nat} {j : Int32} (hk : mK M r = 13) (hj : inb j (mN M r)) : WP d 0 593 [l0, l1, l2, l3] (vi j :: vr r :: st) M Q = WP d 0 594 [l0, l1, l2, l3] (vi (mI M r (ix j)) :: st) M Q := w_sld mC_0 d0_593 hk hj
theorem d0_594 : decode cL_law 594 = .ok (.aload_n 0, 1) := by decide +kernel
theorem k0_594 {d x : Nat} {l1 l2 l3 : Option PV} {st : List PV} {M : Mem} {Q : Option PV → Mem → Prop} : WP d 0 594 [some (vr x), l1, l2, l3] (st) M Q = WP d 0 595 [some (vr x), l1, l2, l3] (vr x :: st) M Q := w1 mC_0 d0_594 rfl rfl
theorem d0_595 : decode cL_law 595 = .ok (.iload_n 3, 1) := by decide +kernel
theorem k0_595 {d : Nat} {x : Int32} {l0 l1 l2 : Option PV} {st : List PV} {M : Mem} {Q : Option PV → Mem → Prop} : WP d 0 595 [l0, l1, l2, some (vi x)] (st) M Q = WP d 0 596 [l0, l1, l2, some (vi x)] (vi x :: st) M Q := w1 mC_0 d0_595 rfl rfl
theorem d0_596 : decode cL_law 596 = .ok (.iconst 2, 1) := by decide +kernel
theorem k0_596 {d : Nat} {l0 l1 l2 l3 : Option PV} {st : List PV} {M : Mem} {Q : Option PV → Mem → Prop} : WP d 0 596 [l0, l1, l2, l3] (st) M Q = WP d 0 597 [l0, l1, l2, l3] (vi 2 :: st) M Q := w_iconst mC_0 d0_596 (by decide)
theorem d0_597 : decode cL_law 597 = .ok (.iadd, 1) := by decide +kernel
theorem k0_597 {d : Nat} {l0 l1 l2 l3 : Option PV} {st : List PV} {M : Mem} {Q : Option PV → Mem → Prop} {x y : Int32} : WP d 0 597 [l0, l1, l2, l3] (vi y :: vi x :: st) M Q = WP d 0 598 [l0, l1, l2, l3] (vi (x + y) :: st) M Q := w1 mC_0 d0_597 rfl rfl
theorem d0_598 : decode cL_law 598 = .ok (.iaload, 1) := by decide +kernel
theorem k0_598 {d : Nat} {l0 l1 l2 l3 : Option PV} {st : List PV} {M : Mem} {Q : Option PV → Mem → Prop} {r : Nat} {j : Int32} (hk : mK M r = 13) (hj : inb j (mN M r)) : WP d 0 598 [l0, l1, l2, l3] (vi j :: vr r :: st) M Q = WP d 0 599 [l0, l1, l2, l3] (vi (mI M r (ix j)) :: st) M Q := w_sld mC_0 d0_598 hk hj
theorem d0_599 : decode cL_law 599 = .ok (.aload_n 0, 1) := by decide +kernel
theorem k0_599 {d x : Nat} {l1 l2 l3 : Option PV} {st : List PV} {M : Mem} {Q : Option PV → Mem → Prop} : WP d 0 599 [some (vr x), l1, l2, l3] (st) M Q = WP d 0 600 [some (vr x), l1, l2, l3] (vr x :: st) M Q := w1 mC_0 d0_599 rfl rfl
theorem d0_600 : decode cL_law 600 = .ok (.iload_n 3, 1) := by decide +kernel
theorem k0_600 {d : Nat} {x : Int32} {l0 l1 l2 : Option PV} {st : List PV} {M : Mem} {Q : Option PV → Mem → Prop} : WP d 0 600 [l0, l1, l2, some (vi x)] (st) M Q = WP d 0 601 [l0, l1, l2, some (vi x)] (vi x :: st) M Q := w1 mC_0 d0_600 rfl rfl
theorem d0_601 : decode cL_law 601 = .ok (.iconst 3, 1) := by decide +kernel
theorem k0_601 {d : Nat} {l0 l1 l2 l3 : Option PV} {st : List PV} {M : Mem} {Q : Option PV → Mem → Prop} : WP d 0 601 [l0, l1, l2, l3] (st) M Q = WP d 0 602 [l0, l1, l2, l3] (vi 3 :: st) M Q := w_iconst mC_0 d0_601 (by decide)
theorem d0_602 : decode cL_law 602 = .ok (.iadd, 1) := by decide +kernel
theorem k0_602 {d : Nat} {l0 l1 l2 l3 : Option PV} {st : List PV} {M : Mem} {Q : Option PV → Mem → Prop} {x y : Int32} : WP d 0 602 [l0, l1, l2, l3] (vi y :: vi x :: st) M Q = WP d 0 603 [l0, l1, l2, l3] (vi (x + y) :: st) M Q := w1 mC_0 d0_602 rfl rfl
theorem d0_603 : decode cL_law 603 = .ok (.iaload, 1) := by decide +kernel
theorem k0_603 {d : Nat} {l0 l1 l2 l3 : Option PV} {st : List PV} {M : Mem} {Q : Option PV → Mem → Prop} {r : Nat} {j : Int32} (hk : mK M r = 13) (hj : inb j (mN M r)) : WP d 0 603 [l0, l1, l2, l3] (vi j :: vr r :: st) M Q = WP d 0 604 [l0, l1, l2, l3] (vi (mI M r (ix j)) :: st) M Q := w_sld mC_0 d0_603 hk hj
theorem d0_604 : decode cL_law 604 = .ok (.invokevirtual 65, 3) := by decide +kernel
theorem k0_604 {d : Nat} {l0 l1 l2 l3 : Option PV} {st : List PV} {M : Mem} {Q : Option PV → Mem → Prop} {a0 a1 a2 : Int32} {r : Nat} (hl : szL st ≤ 8) (hk : mK M r = 11) : WP (d + 1) 0 604 [l0, l1, l2, l3] (vi a2 :: vi a1 :: vi a0 :: vr r :: st) M Q = WP d 89 0 [some (vr r), some (vi a0), some (vi a1), some (vi a2), none, none, none, none] [] M (fun v M' => WP (d + 1) 0 607 [l0, l1, l2, l3] (psh v st) M' Q) := w_callV mC_0 d0_604 (ci := 11) rfl rfl rfl (Nat.le_of_ble_eq_true rfl) (by decide) rfl hl hk
theorem d0_607 : decode cL_law 607 = .ok (.aload_n 2, 1) := by decide +kernel
theorem k0_607 {d x : Nat} {l0 l1 l3 : Option PV} {st : List PV} {M : Mem} {Q : Option PV → Mem → Prop} : WP d 0 607 [l0, l1, some (vr x), l3] (st) M Q = WP d 0 608 [l0, l1, some (vr x), l3] (vr x :: st) M Q := w1 mC_0 d0_607 rfl rfl
theorem d0_608 : decode cL_law 608 = .ok (.aload_n 0, 1) := by decide +kernel
theorem k0_608 {d x : Nat} {l1 l2 l3 : Option PV} {st : List PV} {M : Mem} {Q : Option PV → Mem → Prop} : WP d 0 608 [some (vr x), l1, l2, l3] (st) M Q = WP d 0 609 [some (vr x), l1, l2, l3] (vr x :: st) M Q := w1 mC_0 d0_608 rfl rfl
theorem d0_609 : decode cL_law 609 = .ok (.iload_n 3, 1) := by decide +kernel
theorem k0_609 {d : Nat} {x : Int32} {l0 l1 l2 : Option PV} {st : List PV} {M : Mem} {Q : Option PV → Mem → Prop} : WP d 0 609 [l0, l1, l2, some (vi x)] (st) M Q = WP d 0 610 [l0, l1, l2, some (vi x)] (vi x :: st) M Q := w1 mC_0 d0_609 rfl rfl
theorem d0_610 : decode cL_law 610 = .ok (.iconst 1, 1) := by decide +kernel
theorem k0_610 {d : Nat} {l0 l1 l2 l3 : Option PV} {st : List PV} {M : Mem} {Q : Option PV → Mem → Prop} : WP d 0 610 [l0, l1, l2, l3] (st) M Q = WP d 0 611 [l0, l1, l2, l3] (vi 1 :: st) M Q := w_iconst mC_0 d0_610 (by decide)
theorem d0_611 : decode cL_law 611 = .ok (.iadd, 1) := by decide +kernel
theorem k0_611 {d : Nat} {l0 l1 l2 l3 : Option PV} {st : List PV} {M : Mem} {Q : Option PV → Mem → Prop} {x y : Int32} : WP d 0 611 [l0, l1, l2, l3] (vi y :: vi x :: st) M Q = WP d 0 612 [l0, l1, l2, l3] (vi (x + y) :: st) M Q := w1 mC_0 d0_611 rfl rfl
theorem d0_612 : decode cL_law 612 = .ok (.iaload, 1) := by decide +kernel
theorem k0_612 {d : Nat} {l0 l1 l2 l3 : Option PV} {st : List PV} {M : Mem} {Q : Option PV → Mem → Prop} {r : Nat} {j : Int32} (hk : mK M r = 13) (hj : inb j (mN M r)) : WP d 0 612 [l0, l1, l2, l3] (vi j :: vr r :: st) M Q = WP d 0 613 [l0, l1, l2, l3] (vi (mI M r (ix j)) :: st) M Q := w_sld mC_0 d0_612 hk hj
theorem d0_613 : decode cL_law 613 = .ok (.aload_n 0, 1) := by decide +kernel
theorem k0_613 {d x : Nat} {l1 l2 l3 : Option PV} {st : List PV} {M : Mem} {Q : Option PV → Mem → Prop} : WP d 0 613 [some (vr x), l1, l2, l3] (st) M Q = WP d 0 614 [some (vr x), l1, l2, l3] (vr x :: st) M Q := w1 mC_0 d0_613 rfl rfl
theorem d0_614 : decode cL_law 614 = .ok (.iload_n 3, 1) := by decide +kernel
theorem k0_614 {d : Nat} {x : Int32} {l0 l1 l2 : Option PV} {st : List PV} {M : Mem} {Q : Option PV → Mem → Prop} : WP d 0 614 [l0, l1, l2, some (vi x)] (st) M Q = WP d 0 615 [l0, l1, l2, some (vi x)] (vi x :: st) M Q := w1 mC_0 d0_614 rfl rfl
theorem d0_615 : decode cL_law 615 = .ok (.iconst 2, 1) := by decide +kernel
theorem k0_615 {d : Nat} {l0 l1 l2 l3 : Option PV} {st : List PV} {M : Mem} {Q : Option PV → Mem → Prop} : WP d 0 615 [l0, l1, l2, l3] (st) M Q = WP d 0 616 [l0, l1, l2, l3] (vi 2 :: st) M Q := w_iconst mC_0 d0_615 (by decide)
theorem d0_616 : decode cL_law 616 = .ok (.iadd, 1) := by decide +kernel
theorem k0_616 {d : Nat} {l0 l1 l2 l3 : Option PV} {st : List PV} {M : Mem} {Q : Option PV → Mem → Prop} {x y : Int32} : WP d 0 616 [l0, l1, l2, l3] (vi y :: vi x :: st) M Q = WP d 0 617 [l0, l1, l2, l3] (vi (x + y) :: st) M Q := w1 mC_0 d0_616 rfl rfl
theorem d0_617 : decode cL_law 617 = .ok (.iaload, 1) := by decide +kernel
theorem k0_617 {d : Nat} {l0 l1 l2 l3 : Option PV} {st : List PV} {M : Mem} {Q : Option PV → Mem → Prop} {r : Nat} {j : Int32} (hk : mK M r = 13) (hj : inb j (mN M r)) : WP d 0 617 [l0, l1, l2, l3] (vi j :: vr r :: st) M Q = WP d 0 618 [l0, l1, l2, l3] (vi (mI M r (ix j)) :: st) M Q := w_sld mC_0 d0_617 hk hj
theorem d0_618 : decode cL_law 618 = .ok (.aload_n 0, 1) := by decide +kernel
theorem k0_618 {d x : Nat} {l1 l2 l3 : Option PV} {st : List PV} {M : Mem} {Q : Option PV → Mem → Prop} : WP d 0 618 [some (vr x), l1, l2, l3] (st) M Q = WP d 0 619 [some (vr x), l1, l2, l3] (vr x :: st) M Q := w1 mC_0 d0_618 rfl rfl
theorem d0_619 : decode cL_law 619 = .ok (.iload_n 3, 1) := by decide +kernel
theorem k0_619 {d : Nat} {x : Int32} {l0 l1 l2 : Option PV} {st : List PV} {M : Mem} {Q : Option PV → Mem → Prop} : WP d 0 619 [l0, l1, l2, some (vi x)] (st) M Q = WP d 0 620 [l0, l1, l2, some (vi x)] (vi x :: st) M Q := w1 mC_0 d0_619 rfl rfl
theorem d0_620 : decode cL_law 620 = .ok (.iconst 3, 1) := by decide +kernel
theorem k0_620 {d : Nat} {l0 l1 l2 l3 : Option PV} {st : List PV} {M : Mem} {Q : Option PV → Mem → Prop} : WP d 0 620 [l0, l1, l2, l3] (st) M Q = WP d 0 621 [l0, l1, l2, l3] (vi 3 :: st) M Q := w_iconst mC_0 d0_620 (by decide)
theorem d0_621 : decode cL_law 621 = .ok (.iadd, 1) := by decide +kernel
theorem k0_621 {d : Nat} {l0 l1 l2 l3 : Option PV} {st : List PV} {M : Mem} {Q : Option PV → Mem → Prop} {x y : Int32} : WP d 0 621 [l0, l1, l2, l3] (vi y :: vi x :: st) M Q = WP d 0 622 [l0, l1, l2, l3] (vi (x + y) :: st) M Q := w1 mC_0 d0_621 rfl rfl
theorem d0_622 : decode cL_law 622 = .ok (.iaload, 1) := by decide +kernel
theorem k0_622 {d : Nat} {l0 l1 l2 l3 : Option PV} {st : List PV} {M : Mem} {Q : Option PV → Mem → Prop} {r : Nat} {j : Int32} (hk : mK M r = 13) (hj : inb j (mN M r)) : WP d 0 622 [l0, l1, l2, l3] (vi j :: vr r :: st) M Q = WP d 0 623 [l0, l1, l2, l3] (vi (mI M r (ix j)) :: st) M Q := w_sld mC_0 d0_622 hk hj
theorem d0_623 : decode cL_law 623 = .ok (.invokevirtual 68, 3) := by decide +kernel
theorem k0_623 {d : Nat} {l0 l1 l2 l3 : Option PV} {st : List PV} {M : Mem} {Q : Option PV → Mem → Prop} {a0 a1 a2 : Int32} {r : Nat} (hl : szL st ≤ 8) (hk : mK M r = 12) : WP (d + 1) 0 623 [l0, l1, l2, l3] (vi a2 :: vi a1 :: vi a0 :: vr r :: st) M Q = WP d 202 0 [some (vr r), some (vi a0), some (vi a1), some (vi a2), none, none, none] [] M (fun v M' => WP (d + 1) 0 626 [l0, l1, l2, l3] (psh v st) M' Q) := w_callV mC_0 d0_623 (ci := 12) rfl rfl rfl (Nat.le_of_ble_eq_true rfl) (by decide) rfl hl hk
theorem d0_626 : decode cL_law 626 = .ok (.if_icmp .eq 870, 3) := by decide +kernel
theorem k0_626 {d : Nat} {l0 l1 l2 l3 : Option PV} {st : List PV} {M : Mem} {Q : Option PV → Mem → Prop} {x y : Int32} : WP d 0 626 [l0, l1, l2, l3] (vi y :: vi x :: st) M Q = (if x = y then WP d 0 1496 [l0, l1, l2, l3] (st) M Q else WP d 0 629 [l0, l1, l2, l3] (st) M Q) := w_ic_eq mC_0 d0_626 (by decide)
theorem d0_629 : decode cL_law 629 = .ok (.iconst 0, 1) := by decide +kernel
theorem k0_629 {d : Nat} {l0 l1 l2 l3 : Option PV} {st : List PV} {M : Mem} {Q : Option PV → Mem → Prop} : WP d 0 629 [l0, l1, l2, l3] (st) M Q = WP d 0 630 [l0, l1, l2, l3] (vi 0 :: st) M Q := w_iconst mC_0 d0_629 (by decide)
theorem d0_630 : decode cL_law 630 = .ok (.ireturn, 1) := by decide +kernel
theorem k0_630 {d : Nat} {l0 l1 l2 l3 : Option PV} {M : Mem} {Q : Option PV → Mem → Prop} {x : Int32} (hx : x = 0 ∨ x = 1) : WP d 0 630 [l0, l1, l2, l3] ([vi x]) M Q = Q (some (vi x)) M := w_zret mC_0 d0_630 rfl hx
theorem d0_631 : decode cL_law 631 = .ok (.aload_n 1, 1) := by decide +kernel
theorem k0_631 {d x : Nat} {l0 l2 l3 : Option PV} {st : List PV} {M : Mem} {Q : Option PV → Mem → Prop} : WP d 0 631 [l0, some (vr x), l2, l3] (st) M Q = WP d 0 632 [l0, some (vr x), l2, l3] (vr x :: st) M Q := w1 mC_0 d0_631 rfl rfl
theorem d0_632 : decode cL_law 632 = .ok (.aload_n 0, 1) := by decide +kernel
theorem k0_632 {d x : Nat} {l1 l2 l3 : Option PV} {st : List PV} {M : Mem} {Q : Option PV → Mem → Prop} : WP d 0 632 [some (vr x), l1, l2, l3] (st) M Q = WP d 0 633 [some (vr x), l1, l2, l3] (vr x :: st) M Q := w1 mC_0 d0_632 rfl rfl
theorem d0_633 : decode cL_law 633 = .ok (.iload_n 3, 1) := by decide +kernel
theorem k0_633 {d : Nat} {x : Int32} {l0 l1 l2 : Option PV} {st : List PV} {M : Mem} {Q : Option PV → Mem → Prop} : WP d 0 633 [l0, l1, l2, some (vi x)] (st) M Q = WP d 0 634 [l0, l1, l2, some (vi x)] (vi x :: st) M Q := w1 mC_0 d0_633 rfl rfl
theorem d0_634 : decode cL_law 634 = .ok (.iconst 1, 1) := by decide +kernel
theorem k0_634 {d : Nat} {l0 l1 l2 l3 : Option PV} {st : List PV} {M : Mem} {Q : Option PV → Mem → Prop} : WP d 0 634 [l0, l1, l2, l3] (st) M Q = WP d 0 635 [l0, l1, l2, l3] (vi 1 :: st) M Q := w_iconst mC_0 d0_634 (by decide)
theorem d0_635 : decode cL_law 635 = .ok (.iadd, 1) := by decide +kernel
theorem k0_635 {d : Nat} {l0 l1 l2 l3 : Option PV} {st : List PV} {M : Mem} {Q : Option PV → Mem → Prop} {x y : Int32} : WP d 0 635 [l0, l1, l2, l3] (vi y :: vi x :: st) M Q = WP d 0 636 [l0, l1, l2, l3] (vi (x + y) :: st) M Q := w1 mC_0 d0_635 rfl rfl
theorem d0_636 : decode cL_law 636 = .ok (.iaload, 1) := by decide +kernel
theorem k0_636 {d : Nat} {l0 l1 l2 l3 : Option PV} {st : List PV} {M : Mem} {Q : Option PV → Mem → Prop} {r : Nat} {j : Int32} (hk : mK M r = 13) (hj : inb j (mN M r)) : WP d 0 636 [l0, l1, l2, l3] (vi j :: vr r :: st) M Q = WP d 0 637 [l0, l1, l2, l3] (vi (mI M r (ix j)) :: st) M Q := w_sld mC_0 d0_636 hk hj
theorem d0_637 : decode cL_law 637 = .ok (.aload_n 0, 1) := by decide +kernel
theorem k0_637 {d x : Nat} {l1 l2 l3 : Option PV} {st : List PV} {M : Mem} {Q : Option PV → Mem → Prop} : WP d 0 637 [some (vr x), l1, l2, l3] (st) M Q = WP d 0 638 [some (vr x), l1, l2, l3] (vr x :: st) M Q := w1 mC_0 d0_637 rfl rfl
theorem d0_638 : decode cL_law 638 = .ok (.iload_n 3, 1) := by decide +kernel
theorem k0_638 {d : Nat} {x : Int32} {l0 l1 l2 : Option PV} {st : List PV} {M : Mem} {Q : Option PV → Mem → Prop} : WP d 0 638 [l0, l1, l2, some (vi x)] (st) M Q = WP d 0 639 [l0, l1, l2, some (vi x)] (vi x :: st) M Q := w1 mC_0 d0_638 rfl rfl
theorem d0_639 : decode cL_law 639 = .ok (.iconst 2, 1) := by decide +kernel
theorem k0_639 {d : Nat} {l0 l1 l2 l3 : Option PV} {st : List PV} {M : Mem} {Q : Option PV → Mem → Prop} : WP d 0 639 [l0, l1, l2, l3] (st) M Q = WP d 0 640 [l0, l1, l2, l3] (vi 2 :: st) M Q := w_iconst mC_0 d0_639 (by decide)
theorem d0_640 : decode cL_law 640 = .ok (.iadd, 1) := by decide +kernel
theorem k0_640 {d : Nat} {l0 l1 l2 l3 : Option PV} {st : List PV} {M : Mem} {Q : Option PV → Mem → Prop} {x y : Int32} : WP d 0 640 [l0, l1, l2, l3] (vi y :: vi x :: st) M Q = WP d 0 641 [l0, l1, l2, l3] (vi (x + y) :: st) M Q := w1 mC_0 d0_640 rfl rfl
theorem d0_641 : decode cL_law 641 = .ok (.iaload, 1) := by decide +kernel
theorem k0_641 {d : Nat} {l0 l1 l2 l3 : Option PV} {st : List PV} {M : Mem} {Q : Option PV → Mem → Prop} {r : Nat} {j : Int32} (hk : mK M r = 13) (hj : inb j (mN M r)) : WP d 0 641 [l0, l1, l2, l3] (vi j :: vr r :: st) M Q = WP d 0 642 [l0, l1, l2, l3] (vi (mI M r (ix j)) :: st) M Q := w_sld mC_0 d0_641 hk hj
theorem d0_642 : decode cL_law 642 = .ok (.invokevirtual 69, 3) := by decide +kernel
theorem k0_642 {d : Nat} {l0 l1 l2 l3 : Option PV} {st : List PV} {M : Mem} {Q : Option PV → Mem → Prop} {a0 a1 : Int32} {r : Nat} (hl : szL st ≤ 8) (hk : mK M r = 11) : WP (d + 1) 0 642 [l0, l1, l2, l3] (vi a1 :: vi a0 :: vr r :: st) M Q = WP d 90 0 [some (vr r), some (vi a0), some (vi a1)] [] M (fun v M' => WP (d + 1) 0 645 [l0, l1, l2, l3] (psh v st) M' Q) := w_callV mC_0 d0_642 (ci := 11) rfl rfl rfl (Nat.le_of_ble_eq_true rfl) (by decide) rfl hl hk
theorem d0_645 : decode cL_law 645 = .ok (.aload_n 2, 1) := by decide +kernel
theorem k0_645 {d x : Nat} {l0 l1 l3 : Option PV} {st : List PV} {M : Mem} {Q : Option PV → Mem → Prop} : WP d 0 645 [l0, l1, some (vr x), l3] (st) M Q = WP d 0 646 [l0, l1, some (vr x), l3] (vr x :: st) M Q := w1 mC_0 d0_645 rfl rfl
theorem d0_646 : decode cL_law 646 = .ok (.aload_n 0, 1) := by decide +kernel
theorem k0_646 {d x : Nat} {l1 l2 l3 : Option PV} {st : List PV} {M : Mem} {Q : Option PV → Mem → Prop} : WP d 0 646 [some (vr x), l1, l2, l3] (st) M Q = WP d 0 647 [some (vr x), l1, l2, l3] (vr x :: st) M Q := w1 mC_0 d0_646 rfl rfl
theorem d0_647 : decode cL_law 647 = .ok (.iload_n 3, 1) := by decide +kernel
theorem k0_647 {d : Nat} {x : Int32} {l0 l1 l2 : Option PV} {st : List PV} {M : Mem} {Q : Option PV → Mem → Prop} : WP d 0 647 [l0, l1, l2, some (vi x)] (st) M Q = WP d 0 648 [l0, l1, l2, some (vi x)] (vi x :: st) M Q := w1 mC_0 d0_647 rfl rfl
theorem d0_648 : decode cL_law 648 = .ok (.iconst 1, 1) := by decide +kernel
theorem k0_648 {d : Nat} {l0 l1 l2 l3 : Option PV} {st : List PV} {M : Mem} {Q : Option PV → Mem → Prop} : WP d 0 648 [l0, l1, l2, l3] (st) M Q = WP d 0 649 [l0, l1, l2, l3] (vi 1 :: st) M Q := w_iconst mC_0 d0_648 (by decide)
theorem d0_649 : decode cL_law 649 = .ok (.iadd, 1) := by decide +kernel
theorem k0_649 {d : Nat} {l0 l1 l2 l3 : Option PV} {st : List PV} {M : Mem} {Q : Option PV → Mem → Prop} {x y : Int32} : WP d 0 649 [l0, l1, l2, l3] (vi y :: vi x :: st) M Q = WP d 0 650 [l0, l1, l2, l3] (vi (x + y) :: st) M Q := w1 mC_0 d0_649 rfl rfl
theorem d0_650 : decode cL_law 650 = .ok (.iaload, 1) := by decide +kernel
theorem k0_650 {d : Nat} {l0 l1 l2 l3 : Option PV} {st : List PV} {M : Mem} {Q : Option PV → Mem → Prop} {r : Nat} {j : Int32} (hk : mK M r = 13) (hj : inb j (mN M r)) : WP d 0 650 [l0, l1, l2, l3] (vi j :: vr r :: st) M Q = WP d 0 651 [l0, l1, l2, l3] (vi (mI M r (ix j)) :: st) M Q := w_sld mC_0 d0_650 hk hj
theorem d0_651 : decode cL_law 651 = .ok (.aload_n 0, 1) := by decide +kernel
theorem k0_651 {d x : Nat} {l1 l2 l3 : Option PV} {st : List PV} {M : Mem} {Q : Option PV → Mem → Prop} : WP d 0 651 [some (vr x), l1, l2, l3] (st) M Q = WP d 0 652 [some (vr x), l1, l2, l3] (vr x :: st) M Q := w1 mC_0 d0_651 rfl rfl
theorem d0_652 : decode cL_law 652 = .ok (.iload_n 3, 1) := by decide +kernel
theorem k0_652 {d : Nat} {x : Int32} {l0 l1 l2 : Option PV} {st : List PV} {M : Mem} {Q : Option PV → Mem → Prop} : WP d 0 652 [l0, l1, l2, some (vi x)] (st) M Q = WP d 0 653 [l0, l1, l2, some (vi x)] (vi x :: st) M Q := w1 mC_0 d0_652 rfl rfl
theorem d0_653 : decode cL_law 653 = .ok (.iconst 2, 1) := by decide +kernel
theorem k0_653 {d : Nat} {l0 l1 l2 l3 : Option PV} {st : List PV} {M : Mem} {Q : Option PV → Mem → Prop} : WP d 0 653 [l0, l1, l2, l3] (st) M Q = WP d 0 654 [l0, l1, l2, l3] (vi 2 :: st) M Q := w_iconst mC_0 d0_653 (by decide)
theorem d0_654 : decode cL_law 654 = .ok (.iadd, 1) := by decide +kernel
theorem k0_654 {d : Nat} {l0 l1 l2 l3 : Option PV} {st : List PV} {M : Mem} {Q : Option PV → Mem → Prop} {x y : Int32} : WP d 0 654 [l0, l1, l2, l3] (vi y :: vi x :: st) M Q = WP d 0 655 [l0, l1, l2, l3] (vi (x + y) :: st) M Q := w1 mC_0 d0_654 rfl rfl
theorem d0_655 : decode cL_law 655 = .ok (.iaload, 1) := by decide +kernel
theorem k0_655 {d : Nat} {l0 l1 l2 l3 : Option PV} {st : List PV} {M : Mem} {Q : Option PV → Mem → Prop} {r : Nat} {j : Int32} (hk : mK M r = 13) (hj : inb j (mN M r)) : WP d 0 655 [l0, l1, l2, l3] (vi j :: vr r :: st) M Q = WP d 0 656 [l0, l1, l2, l3] (vi (mI M r (ix j)) :: st) M Q := w_sld mC_0 d0_655 hk hj
theorem d0_656 : decode cL_law 656 = .ok (.invokevirtual 72, 3) := by decide +kernel
theorem k0_656 {d : Nat} {l0 l1 l2 l3 : Option PV} {st : List PV} {M : Mem} {Q : Option PV → Mem → Prop} {a0 a1 : Int32} {r : Nat} (hl : szL st ≤ 8) (hk : mK M r = 12) : WP (d + 1) 0 656 [l0, l1, l2, l3] (vi a1 :: vi a0 :: vr r :: st) M Q = WP d 204 0 [some (vr r), some (vi a0), some (vi a1), none, none] [] M (fun v M' => WP (d + 1) 0 659 [l0, l1, l2, l3] (psh v st) M' Q) := w_callV mC_0 d0_656 (ci := 12) rfl rfl rfl (Nat.le_of_ble_eq_true rfl) (by decide) rfl hl hk
theorem d0_659 : decode cL_law 659 = .ok (.if_icmp .eq 837, 3) := by decide +kernel
theorem k0_659 {d : Nat} {l0 l1 l2 l3 : Option PV} {st : List PV} {M : Mem} {Q : Option PV → Mem → Prop} {x y : Int32} : WP d 0 659 [l0, l1, l2, l3] (vi y :: vi x :: st) M Q = (if x = y then WP d 0 1496 [l0, l1, l2, l3] (st) M Q else WP d 0 662 [l0, l1, l2, l3] (st) M Q) := w_ic_eq mC_0 d0_659 (by decide)
theorem d0_662 : decode cL_law 662 = .ok (.iconst 0, 1) := by decide +kernel
theorem k0_662 {d : Nat} {l0 l1 l2 l3 : Option PV} {st : List PV} {M : Mem} {Q : Option PV → Mem → Prop} : WP d 0 662 [l0, l1, l2, l3] (st) M Q = WP d 0 663 [l0, l1, l2, l3] (vi 0 :: st) M Q := w_iconst mC_0 d0_662 (by decide)
theorem d0_663 : decode cL_law 663 = .ok (.ireturn, 1) := by decide +kernel
theorem k0_663 {d : Nat} {l0 l1 l2 l3 : Option PV} {M : Mem} {Q : Option PV → Mem → Prop} {x : Int32} (hx : x = 0 ∨ x = 1) : WP d 0 663 [l0, l1, l2, l3] ([vi x]) M Q = Q (some (vi x)) M := w_zret mC_0 d0_663 rfl hx
theorem d0_664 : decode cL_law 664 = .ok (.aload_n 1, 1) := by decide +kernel
theorem k0_664 {d x : Nat} {l0 l2 l3 : Option PV} {st : List PV} {M : Mem} {Q : Option PV → Mem → Prop} : WP d 0 664 [l0, some (vr x), l2, l3] (st) M Q = WP d 0 665 [l0, some (vr x), l2, l3] (vr x :: st) M Q := w1 mC_0 d0_664 rfl rfl
theorem d0_665 : decode cL_law 665 = .ok (.aload_n 0, 1) := by decide +kernel
theorem k0_665 {d x : Nat} {l1 l2 l3 : Option PV} {st : List PV} {M : Mem} {Q : Option PV → Mem → Prop} : WP d 0 665 [some (vr x), l1, l2, l3] (st) M Q = WP d 0 666 [some (vr x), l1, l2, l3] (vr x :: st) M Q := w1 mC_0 d0_665 rfl rfl
theorem d0_666 : decode cL_law 666 = .ok (.iload_n 3, 1) := by decide +kernel
theorem k0_666 {d : Nat} {x : Int32} {l0 l1 l2 : Option PV} {st : List PV} {M : Mem} {Q : Option PV → Mem → Prop} : WP d 0 666 [l0, l1, l2, some (vi x)] (st) M Q = WP d 0 667 [l0, l1, l2, some (vi x)] (vi x :: st) M Q := w1 mC_0 d0_666 rfl rfl
theorem d0_667 : decode cL_law 667 = .ok (.iconst 1, 1) := by decide +kernel
theorem k0_667 {d : Nat} {l0 l1 l2 l3 : Option PV} {st : List PV} {M : Mem} {Q : Option PV → Mem → Prop} : WP d 0 667 [l0, l1, l2, l3] (st) M Q = WP d 0 668 [l0, l1, l2, l3] (vi 1 :: st) M Q := w_iconst mC_0 d0_667 (by decide)
theorem d0_668 : decode cL_law 668 = .ok (.iadd, 1) := by decide +kernel
theorem k0_668 {d : Nat} {l0 l1 l2 l3 : Option PV} {st : List PV} {M : Mem} {Q : Option PV → Mem → Prop} {x y : Int32} : WP d 0 668 [l0, l1, l2, l3] (vi y :: vi x :: st) M Q = WP d 0 669 [l0, l1, l2, l3] (vi (x + y) :: st) M Q := w1 mC_0 d0_668 rfl rfl
theorem d0_669 : decode cL_law 669 = .ok (.iaload, 1) := by decide +kernel
theorem k0_669 {d : Nat} {l0 l1 l2 l3 : Option PV} {st : List PV} {M : Mem} {Q : Option PV → Mem → Prop} {r : Nat} {j : Int32} (hk : mK M r = 13) (hj : inb j (mN M r)) : WP d 0 669 [l0, l1, l2, l3] (vi j :: vr r :: st) M Q = WP d 0 670 [l0, l1, l2, l3] (vi (mI M r (ix j)) :: st) M Q := w_sld mC_0 d0_669 hk hj
theorem d0_670 : decode cL_law 670 = .ok (.aload_n 0, 1) := by decide +kernel
theorem k0_670 {d x : Nat} {l1 l2 l3 : Option PV} {st : List PV} {M : Mem} {Q : Option PV → Mem → Prop} : WP d 0 670 [some (vr x), l1, l2, l3] (st) M Q = WP d 0 671 [some (vr x), l1, l2, l3] (vr x :: st) M Q := w1 mC_0 d0_670 rfl rfl
theorem d0_671 : decode cL_law 671 = .ok (.iload_n 3, 1) := by decide +kernel
theorem k0_671 {d : Nat} {x : Int32} {l0 l1 l2 : Option PV} {st : List PV} {M : Mem} {Q : Option PV → Mem → Prop} : WP d 0 671 [l0, l1, l2, some (vi x)] (st) M Q = WP d 0 672 [l0, l1, l2, some (vi x)] (vi x :: st) M Q := w1 mC_0 d0_671 rfl rfl
theorem d0_672 : decode cL_law 672 = .ok (.iconst 2, 1) := by decide +kernel
theorem k0_672 {d : Nat} {l0 l1 l2 l3 : Option PV} {st : List PV} {M : Mem} {Q : Option PV → Mem → Prop} : WP d 0 672 [l0, l1, l2, l3] (st) M Q = WP d 0 673 [l0, l1, l2, l3] (vi 2 :: st) M Q := w_iconst mC_0 d0_672 (by decide)
theorem d0_673 : decode cL_law 673 = .ok (.iadd, 1) := by decide +kernel
theorem k0_673 {d : Nat} {l0 l1 l2 l3 : Option PV} {st : List PV} {M : Mem} {Q : Option PV → Mem → Prop} {x y : Int32} : WP d 0 673 [l0, l1, l2, l3] (vi y :: vi x :: st) M Q = WP d 0 674 [l0, l1, l2, l3] (vi (x + y) :: st) M Q := w1 mC_0 d0_673 rfl rfl
theorem d0_674 : decode cL_law 674 = .ok (.iaload, 1) := by decide +kernel
theorem k0_674 {d : Nat} {l0 l1 l2 l3 : Option PV} {st : List PV} {M : Mem} {Q : Option PV → Mem → Prop} {r : Nat} {j : Int32} (hk : mK M r = 13) (hj : inb j (mN M r)) : WP d 0 674 [l0, l1, l2, l3] (vi j :: vr r :: st) M Q = WP d 0 675 [l0, l1, l2, l3] (vi (mI M r (ix j)) :: st) M Q := w_sld mC_0 d0_674 hk hj
theorem d0_675 : decode cL_law 675 = .ok (.invokevirtual 73, 3) := by decide +kernel
theorem k0_675 {d : Nat} {l0 l1 l2 l3 : Option PV} {st : List PV} {M : Mem} {Q : Option PV → Mem → Prop} {a0 a1 : Int32} {r : Nat} (hl : szL st ≤ 8) (hk : mK M r = 11) : WP (d + 1) 0 675 [l0, l1, l2, l3] (vi a1 :: vi a0 :: vr r :: st) M Q = WP d 96 0 [some (vr r), some (vi a0), some (vi a1), none] [] M (fun v M' => WP (d + 1) 0 678 [l0, l1, l2, l3] (psh v st) M' Q) := w_callV mC_0 d0_675 (ci := 11) rfl rfl rfl (Nat.le_of_ble_eq_true rfl) (by decide) rfl hl hk
theorem d0_678 : decode cL_law 678 = .ok (.aload_n 2, 1) := by decide +kernel
theorem k0_678 {d x : Nat} {l0 l1 l3 : Option PV} {st : List PV} {M : Mem} {Q : Option PV → Mem → Prop} : WP d 0 678 [l0, l1, some (vr x), l3] (st) M Q = WP d 0 679 [l0, l1, some (vr x), l3] (vr x :: st) M Q := w1 mC_0 d0_678 rfl rfl
theorem d0_679 : decode cL_law 679 = .ok (.aload_n 0, 1) := by decide +kernel
theorem k0_679 {d x : Nat} {l1 l2 l3 : Option PV} {st : List PV} {M : Mem} {Q : Option PV → Mem → Prop} : WP d 0 679 [some (vr x), l1, l2, l3] (st) M Q = WP d 0 680 [some (vr x), l1, l2, l3] (vr x :: st) M Q := w1 mC_0 d0_679 rfl rfl
theorem d0_680 : decode cL_law 680 = .ok (.iload_n 3, 1) := by decide +kernel
theorem k0_680 {d : Nat} {x : Int32} {l0 l1 l2 : Option PV} {st : List PV} {M : Mem} {Q : Option PV → Mem → Prop} : WP d 0 680 [l0, l1, l2, some (vi x)] (st) M Q = WP d 0 681 [l0, l1, l2, some (vi x)] (vi x :: st) M Q := w1 mC_0 d0_680 rfl rfl
theorem d0_681 : decode cL_law 681 = .ok (.iconst 1, 1) := by decide +kernel
theorem k0_681 {d : Nat} {l0 l1 l2 l3 : Option PV} {st : List PV} {M : Mem} {Q : Option PV → Mem → Prop} : WP d 0 681 [l0, l1, l2, l3] (st) M Q = WP d 0 682 [l0, l1, l2, l3] (vi 1 :: st) M Q := w_iconst mC_0 d0_681 (by decide)
theorem d0_682 : decode cL_law 682 = .ok (.iadd, 1) := by decide +kernel
theorem k0_682 {d : Nat} {l0 l1 l2 l3 : Option PV} {st : List PV} {M : Mem} {Q : Option PV → Mem → Prop} {x y : Int32} : WP d 0 682 [l0, l1, l2, l3] (vi y :: vi x :: st) M Q = WP d 0 683 [l0, l1, l2, l3] (vi (x + y) :: st) M Q := w1 mC_0 d0_682 rfl rfl
theorem d0_683 : decode cL_law 683 = .ok (.iaload, 1) := by decide +kernel
theorem k0_683 {d : Nat} {l0 l1 l2 l3 : Option PV} {st : List PV} {M : Mem} {Q : Option PV → Mem → Prop} {r : Nat} {j : Int32} (hk : mK M r = 13) (hj : inb j (mN M r)) : WP d 0 683 [l0, l1, l2, l3] (vi j :: vr r :: st) M Q = WP d 0 684 [l0, l1, l2, l3] (vi (mI M r (ix j)) :: st) M Q := w_sld mC_0 d0_683 hk hj
theorem d0_684 : decode cL_law 684 = .ok (.aload_n 0, 1) := by decide +kernel
theorem k0_684 {d x : Nat} {l1 l2 l3 : Option PV} {st : List PV} {M : Mem} {Q : Option PV → Mem → Prop} : WP d 0 684 [some (vr x), l1, l2, l3] (st) M Q = WP d 0 685 [some (vr x), l1, l2, l3] (vr x :: st) M Q := w1 mC_0 d0_684 rfl rfl
theorem d0_685 : decode cL_law 685 = .ok (.iload_n 3, 1) := by decide +kernel
theorem k0_685 {d : Nat} {x : Int32} {l0 l1 l2 : Option PV} {st : List PV} {M : Mem} {Q : Option PV → Mem → Prop} : WP d 0 685 [l0, l1, l2, some (vi x)] (st) M Q = WP d 0 686 [l0, l1, l2, some (vi x)] (vi x :: st) M Q := w1 mC_0 d0_685 rfl rfl
theorem d0_686 : decode cL_law 686 = .ok (.iconst 2, 1) := by decide +kernel
theorem k0_686 {d : Nat} {l0 l1 l2 l3 : Option PV} {st : List PV} {M : Mem} {Q : Option PV → Mem → Prop} : WP d 0 686 [l0, l1, l2, l3] (st) M Q = WP d 0 687 [l0, l1, l2, l3] (vi 2 :: st) M Q := w_iconst mC_0 d0_686 (by decide)
theorem d0_687 : decode cL_law 687 = .ok (.iadd, 1) := by decide +kernel
theorem k0_687 {d : Nat} {l0 l1 l2 l3 : Option PV} {st : List PV} {M : Mem} {Q : Option PV → Mem → Prop} {x y : Int32} : WP d 0 687 [l0, l1, l2, l3] (vi y :: vi x :: st) M Q = WP d 0 688 [l0, l1, l2, l3] (vi (x + y) :: st) M Q := w1 mC_0 d0_687 rfl rfl
theorem d0_688 : decode cL_law 688 = .ok (.iaload, 1) := by decide +kernel
theorem k0_688 {d : Nat} {l0 l1 l2 l3 : Option PV} {st : List PV} {M : Mem} {Q : Option PV → Mem → Prop} {r : Nat} {j : Int32} (hk : mK M r = 13) (hj : inb j (mN M r)) : WP d 0 688 [l0, l1, l2, l3] (vi j :: vr r :: st) M Q = WP d 0 689 [l0, l1, l2, l3] (vi (mI M r (ix j)) :: st) M Q := w_sld mC_0 d0_688 hk hj
theorem d0_689 : decode cL_law 689 = .ok (.invokevirtual 76, 3) := by decide +kernel
theorem k0_689 {d : Nat} {l0 l1 l2 l3 : Option PV} {st : List PV} {M : Mem} {Q : Option PV → Mem → Prop} {a0 a1 : Int32} {r : Nat} (hl : szL st ≤ 8) (hk : mK M r = 12) : WP (d + 1) 0 689 [l0, l1, l2, l3] (vi a1 :: vi a0 :: vr r :: st) M Q = WP d 206 0 [some (vr r), some (vi a0), some (vi a1), none] [] M (fun v M' => WP (d + 1) 0 692 [l0, l1, l2, l3] (psh v st) M' Q) := w_callV mC_0 d0_689 (ci := 12) rfl rfl rfl (Nat.le_of_ble_eq_true rfl) (by decide) rfl hl hk
theorem d0_692 : decode cL_law 692 = .ok (.if_icmp .eq 804, 3) := by decide +kernel
theorem k0_692 {d : Nat} {l0 l1 l2 l3 : Option PV} {st : List PV} {M : Mem} {Q : Option PV → Mem → Prop} {x y : Int32} : WP d 0 692 [l0, l1, l2, l3] (vi y :: vi x :: st) M Q = (if x = y then WP d 0 1496 [l0, l1, l2, l3] (st) M Q else WP d 0 695 [l0, l1, l2, l3] (st) M Q) := w_ic_eq mC_0 d0_692 (by decide)
theorem d0_695 : decode cL_law 695 = .ok (.iconst 0, 1) := by decide +kernel
theorem k0_695 {d : Nat} {l0 l1 l2 l3 : Option PV} {st : List PV} {M : Mem} {Q : Option PV → Mem → Prop} : WP d 0 695 [l0, l1, l2, l3] (st) M Q = WP d 0 696 [l0, l1, l2, l3] (vi 0 :: st) M Q := w_iconst mC_0 d0_695 (by decide)
theorem d0_696 : decode cL_law 696 = .ok (.ireturn, 1) := by decide +kernel
theorem k0_696 {d : Nat} {l0 l1 l2 l3 : Option PV} {M : Mem} {Q : Option PV → Mem → Prop} {x : Int32} (hx : x = 0 ∨ x = 1) : WP d 0 696 [l0, l1, l2, l3] ([vi x]) M Q = Q (some (vi x)) M := w_zret mC_0 d0_696 rfl hx
theorem d0_697 : decode cL_law 697 = .ok (.aload_n 1, 1) := by decide +kernel
theorem k0_697 {d x : Nat} {l0 l2 l3 : Option PV} {st : List PV} {M : Mem} {Q : Option PV → Mem → Prop} : WP d 0 697 [l0, some (vr x), l2, l3] (st) M Q = WP d 0 698 [l0, some (vr x), l2, l3] (vr x :: st) M Q := w1 mC_0 d0_697 rfl rfl
theorem d0_698 : decode cL_law 698 = .ok (.aload_n 0, 1) := by decide +kernel
theorem k0_698 {d x : Nat} {l1 l2 l3 : Option PV} {st : List PV} {M : Mem} {Q : Option PV → Mem → Prop} : WP d 0 698 [some (vr x), l1, l2, l3] (st) M Q = WP d 0 699 [some (vr x), l1, l2, l3] (vr x :: st) M Q := w1 mC_0 d0_698 rfl rfl
theorem d0_699 : decode cL_law 699 = .ok (.iload_n 3, 1) := by decide +kernel
theorem k0_699 {d : Nat} {x : Int32} {l0 l1 l2 : Option PV} {st : List PV} {M : Mem} {Q : Option PV → Mem → Prop} : WP d 0 699 [l0, l1, l2, some (vi x)] (st) M Q = WP d 0 700 [l0, l1, l2, some (vi x)] (vi x :: st) M Q := w1 mC_0 d0_699 rfl rfl
theorem d0_700 : decode cL_law 700 = .ok (.iconst 1, 1) := by decide +kernel
theorem k0_700 {d : Nat} {l0 l1 l2 l3 : Option PV} {st : List PV} {M : Mem} {Q : Option PV → Mem → Prop} : WP d 0 700 [l0, l1, l2, l3] (st) M Q = WP d 0 701 [l0, l1, l2, l3] (vi 1 :: st) M Q := w_iconst mC_0 d0_700 (by decide)
theorem d0_701 : decode cL_law 701 = .ok (.iadd, 1) := by decide +kernel
theorem k0_701 {d : Nat} {l0 l1 l2 l3 : Option PV} {st : List PV} {M : Mem} {Q : Option PV → Mem → Prop} {x y : Int32} : WP d 0 701 [l0, l1, l2, l3] (vi y :: vi x :: st) M Q = WP d 0 702 [l0, l1, l2, l3] (vi (x + y) :: st) M Q := w1 mC_0 d0_701 rfl rfl
theorem d0_702 : decode cL_law 702 = .ok (.iaload, 1) := by decide +kernel
theorem k0_702 {d : Nat} {l0 l1 l2 l3 : Option PV} {st : List PV} {M : Mem} {Q : Option PV → Mem → Prop} {r : Nat} {j : Int32} (hk : mK M r = 13) (hj : inb j (mN M r)) : WP d 0 702 [l0, l1, l2, l3] (vi j :: vr r :: st) M Q = WP d 0 703 [l0, l1, l2, l3] (vi (mI M r (ix j)) :: st) M Q := w_sld mC_0 d0_702 hk hj
theorem d0_703 : decode cL_law 703 = .ok (.aload_n 0, 1) := by decide +kernel
theorem k0_703 {d x : Nat} {l1 l2 l3 : Option PV} {st : List PV} {M : Mem} {Q : Option PV → Mem → Prop} : WP d 0 703 [some (vr x), l1, l2, l3] (st) M Q = WP d 0 704 [some (vr x), l1, l2, l3] (vr x :: st) M Q := w1 mC_0 d0_703 rfl rfl
theorem d0_704 : decode cL_law 704 = .ok (.iload_n 3, 1) := by decide +kernel
theorem k0_704 {d : Nat} {x : Int32} {l0 l1 l2 : Option PV} {st : List PV} {M : Mem} {Q : Option PV → Mem → Prop} : WP d 0 704 [l0, l1, l2, some (vi x)] (st) M Q = WP d 0 705 [l0, l1, l2, some (vi x)] (vi x :: st) M Q := w1 mC_0 d0_704 rfl rfl
theorem d0_705 : decode cL_law 705 = .ok (.iconst 2, 1) := by decide +kernel
theorem k0_705 {d : Nat} {l0 l1 l2 l3 : Option PV} {st : List PV} {M : Mem} {Q : Option PV → Mem → Prop} : WP d 0 705 [l0, l1, l2, l3] (st) M Q = WP d 0 706 [l0, l1, l2, l3] (vi 2 :: st) M Q := w_iconst mC_0 d0_705 (by decide)
theorem d0_706 : decode cL_law 706 = .ok (.iadd, 1) := by decide +kernel
theorem k0_706 {d : Nat} {l0 l1 l2 l3 : Option PV} {st : List PV} {M : Mem} {Q : Option PV → Mem → Prop} {x y : Int32} : WP d 0 706 [l0, l1, l2, l3] (vi y :: vi x :: st) M Q = WP d 0 707 [l0, l1, l2, l3] (vi (x + y) :: st) M Q := w1 mC_0 d0_706 rfl rfl
theorem d0_707 : decode cL_law 707 = .ok (.iaload, 1) := by decide +kernel
theorem k0_707 {d : Nat} {l0 l1 l2 l3 : Option PV} {st : List PV} {M : Mem} {Q : Option PV → Mem → Prop} {r : Nat} {j : Int32} (hk : mK M r = 13) (hj : inb j (mN M r)) : WP d 0 707 [l0, l1, l2, l3] (vi j :: vr r :: st) M Q = WP d 0 708 [l0, l1, l2, l3] (vi (mI M r (ix j)) :: st) M Q := w_sld mC_0 d0_707 hk hj
theorem d0_708 : decode cL_law 708 = .ok (.invokevirtual 77, 3) := by decide +kernel
theorem k0_708 {d : Nat} {l0 l1 l2 l3 : Option PV} {st : List PV} {M : Mem} {Q : Option PV → Mem → Prop} {a0 a1 : Int32} {r : Nat} (hl : szL st ≤ 8) (hk : mK M r = 11) : WP (d + 1) 0 708 [l0, l1, l2, l3] (vi a1 :: vi a0 :: vr r :: st) M Q = WP d 98 0 [some (vr r), some (vi a0), some (vi a1)] [] M (fun v M' => WP (d + 1) 0 711 [l0, l1, l2, l3] (psh v st) M' Q) := w_callV mC_0 d0_708 (ci := 11) rfl rfl rfl (Nat.le_of_ble_eq_true rfl) (by decide) rfl hl hk
theorem d0_711 : decode cL_law 711 = .ok (.aload_n 2, 1) := by decide +kernel
theorem k0_711 {d x : Nat} {l0 l1 l3 : Option PV} {st : List PV} {M : Mem} {Q : Option PV → Mem → Prop} : WP d 0 711 [l0, l1, some (vr x), l3] (st) M Q = WP d 0 712 [l0, l1, some (vr x), l3] (vr x :: st) M Q := w1 mC_0 d0_711 rfl rfl
theorem d0_712 : decode cL_law 712 = .ok (.aload_n 0, 1) := by decide +kernel
theorem k0_712 {d x : Nat} {l1 l2 l3 : Option PV} {st : List PV} {M : Mem} {Q : Option PV → Mem → Prop} : WP d 0 712 [some (vr x), l1, l2, l3] (st) M Q = WP d 0 713 [some (vr x), l1, l2, l3] (vr x :: st) M Q := w1 mC_0 d0_712 rfl rfl
theorem d0_713 : decode cL_law 713 = .ok (.iload_n 3, 1) := by decide +kernel
theorem k0_713 {d : Nat} {x : Int32} {l0 l1 l2 : Option PV} {st : List PV} {M : Mem} {Q : Option PV → Mem → Prop} : WP d 0 713 [l0, l1, l2, some (vi x)] (st) M Q = WP d 0 714 [l0, l1, l2, some (vi x)] (vi x :: st) M Q := w1 mC_0 d0_713 rfl rfl
theorem d0_714 : decode cL_law 714 = .ok (.iconst 1, 1) := by decide +kernel
theorem k0_714 {d : Nat} {l0 l1 l2 l3 : Option PV} {st : List PV} {M : Mem} {Q : Option PV → Mem → Prop} : WP d 0 714 [l0, l1, l2, l3] (st) M Q = WP d 0 715 [l0, l1, l2, l3] (vi 1 :: st) M Q := w_iconst mC_0 d0_714 (by decide)
theorem d0_715 : decode cL_law 715 = .ok (.iadd, 1) := by decide +kernel
theorem k0_715 {d : Nat} {l0 l1 l2 l3 : Option PV} {st : List PV} {M : Mem} {Q : Option PV → Mem → Prop} {x y : Int32} : WP d 0 715 [l0, l1, l2, l3] (vi y :: vi x :: st) M Q = WP d 0 716 [l0, l1, l2, l3] (vi (x + y) :: st) M Q := w1 mC_0 d0_715 rfl rfl
theorem d0_716 : decode cL_law 716 = .ok (.iaload, 1) := by decide +kernel
theorem k0_716 {d : Nat} {l0 l1 l2 l3 : Option PV} {st : List PV} {M : Mem} {Q : Option PV → Mem → Prop} {r : Nat} {j : Int32} (hk : mK M r = 13) (hj : inb j (mN M r)) : WP d 0 716 [l0, l1, l2, l3] (vi j :: vr r :: st) M Q = WP d 0 717 [l0, l1, l2, l3] (vi (mI M r (ix j)) :: st) M Q := w_sld mC_0 d0_716 hk hj
theorem d0_717 : decode cL_law 717 = .ok (.aload_n 0, 1) := by decide +kernel
theorem k0_717 {d x : Nat} {l1 l2 l3 : Option PV} {st : List PV} {M : Mem} {Q : Option PV → Mem → Prop} : WP d 0 717 [some (vr x), l1, l2, l3] (st) M Q = WP d 0 718 [some (vr x), l1, l2, l3] (vr x :: st) M Q := w1 mC_0 d0_717 rfl rfl
theorem d0_718 : decode cL_law 718 = .ok (.iload_n 3, 1) := by decide +kernel
theorem k0_718 {d : Nat} {x : Int32} {l0 l1 l2 : Option PV} {st : List PV} {M : Mem} {Q : Option PV → Mem → Prop} : WP d 0 718 [l0, l1, l2, some (vi x)] (st) M Q = WP d 0 719 [l0, l1, l2, some (vi x)] (vi x :: st) M Q := w1 mC_0 d0_718 rfl rfl
theorem d0_719 : decode cL_law 719 = .ok (.iconst 2, 1) := by decide +kernel
theorem k0_719 {d : Nat} {l0 l1 l2 l3 : Option PV} {st : List PV} {M : Mem} {Q : Option PV → Mem → Prop} : WP d 0 719 [l0, l1, l2, l3] (st) M Q = WP d 0 720 [l0, l1, l2, l3] (vi 2 :: st) M Q := w_iconst mC_0 d0_719 (by decide)
theorem d0_720 : decode cL_law 720 = .ok (.iadd, 1) := by decide +kernel
theorem k0_720 {d : Nat} {l0 l1 l2 l3 : Option PV} {st : List PV} {M : Mem} {Q : Option PV → Mem → Prop} {x y : Int32} : WP d 0 720 [l0, l1, l2, l3] (vi y :: vi x :: st) M Q = WP d 0 721 [l0, l1, l2, l3] (vi (x + y) :: st) M Q := w1 mC_0 d0_720 rfl rfl
theorem d0_721 : decode cL_law 721 = .ok (.iaload, 1) := by decide +kernel
theorem k0_721 {d : Nat} {l0 l1 l2 l3 : Option PV} {st : List PV} {M : Mem} {Q : Option PV → Mem → Prop} {r : Nat} {j : Int32} (hk : mK M r = 13) (hj : inb j (mN M r)) : WP d 0 721 [l0, l1, l2, l3] (vi j :: vr r :: st) M Q = WP d 0 722 [l0, l1, l2, l3] (vi (mI M r (ix j)) :: st) M Q := w_sld mC_0 d0_721 hk hj
theorem d0_722 : decode cL_law 722 = .ok (.invokevirtual 80, 3) := by decide +kernel
theorem k0_722 {d : Nat} {l0 l1 l2 l3 : Option PV} {st : List PV} {M : Mem} {Q : Option PV → Mem → Prop} {a0 a1 : Int32} {r : Nat} (hl : szL st ≤ 8) (hk : mK M r = 12) : WP (d + 1) 0 722 [l0, l1, l2, l3] (vi a1 :: vi a0 :: vr r :: st) M Q = WP d 208 0 [some (vr r), some (vi a0), some (vi a1), none, none, none] [] M (fun v M' => WP (d + 1) 0 725 [l0, l1, l2, l3] (psh v st) M' Q) := w_callV mC_0 d0_722 (ci := 12) rfl rfl rfl (Nat.le_of_ble_eq_true rfl) (by decide) rfl hl hk
theorem d0_725 : decode cL_law 725 = .ok (.if_icmp .eq 771, 3) := by decide +kernel
theorem k0_725 {d : Nat} {l0 l1 l2 l3 : Option PV} {st : List PV} {M : Mem} {Q : Option PV → Mem → Prop} {x y : Int32} : WP d 0 725 [l0, l1, l2, l3] (vi y :: vi x :: st) M Q = (if x = y then WP d 0 1496 [l0, l1, l2, l3] (st) M Q else WP d 0 728 [l0, l1, l2, l3] (st) M Q) := w_ic_eq mC_0 d0_725 (by decide)
theorem d0_728 : decode cL_law 728 = .ok (.iconst 0, 1) := by decide +kernel
theorem k0_728 {d : Nat} {l0 l1 l2 l3 : Option PV} {st : List PV} {M : Mem} {Q : Option PV → Mem → Prop} : WP d 0 728 [l0, l1, l2, l3] (st) M Q = WP d 0 729 [l0, l1, l2, l3] (vi 0 :: st) M Q := w_iconst mC_0 d0_728 (by decide)
theorem d0_729 : decode cL_law 729 = .ok (.ireturn, 1) := by decide +kernel
theorem k0_729 {d : Nat} {l0 l1 l2 l3 : Option PV} {M : Mem} {Q : Option PV → Mem → Prop} {x : Int32} (hx : x = 0 ∨ x = 1) : WP d 0 729 [l0, l1, l2, l3] ([vi x]) M Q = Q (some (vi x)) M := w_zret mC_0 d0_729 rfl hx
theorem d0_730 : decode cL_law 730 = .ok (.aload_n 1, 1) := by decide +kernel
theorem k0_730 {d x : Nat} {l0 l2 l3 : Option PV} {st : List PV} {M : Mem} {Q : Option PV → Mem → Prop} : WP d 0 730 [l0, some (vr x), l2, l3] (st) M Q = WP d 0 731 [l0, some (vr x), l2, l3] (vr x :: st) M Q := w1 mC_0 d0_730 rfl rfl
theorem d0_731 : decode cL_law 731 = .ok (.aload_n 0, 1) := by decide +kernel
theorem k0_731 {d x : Nat} {l1 l2 l3 : Option PV} {st : List PV} {M : Mem} {Q : Option PV → Mem → Prop} : WP d 0 731 [some (vr x), l1, l2, l3] (st) M Q = WP d 0 732 [some (vr x), l1, l2, l3] (vr x :: st) M Q := w1 mC_0 d0_731 rfl rfl
theorem d0_732 : decode cL_law 732 = .ok (.iload_n 3, 1) := by decide +kernel
theorem k0_732 {d : Nat} {x : Int32} {l0 l1 l2 : Option PV} {st : List PV} {M : Mem} {Q : Option PV → Mem → Prop} : WP d 0 732 [l0, l1, l2, some (vi x)] (st) M Q = WP d 0 733 [l0, l1, l2, some (vi x)] (vi x :: st) M Q := w1 mC_0 d0_732 rfl rfl
theorem d0_733 : decode cL_law 733 = .ok (.iconst 1, 1) := by decide +kernel
theorem k0_733 {d : Nat} {l0 l1 l2 l3 : Option PV} {st : List PV} {M : Mem} {Q : Option PV → Mem → Prop} : WP d 0 733 [l0, l1, l2, l3] (st) M Q = WP d 0 734 [l0, l1, l2, l3] (vi 1 :: st) M Q := w_iconst mC_0 d0_733 (by decide)
theorem d0_734 : decode cL_law 734 = .ok (.iadd, 1) := by decide +kernel
theorem k0_734 {d : Nat} {l0 l1 l2 l3 : Option PV} {st : List PV} {M : Mem} {Q : Option PV → Mem → Prop} {x y : Int32} : WP d 0 734 [l0, l1, l2, l3] (vi y :: vi x :: st) M Q = WP d 0 735 [l0, l1, l2, l3] (vi (x + y) :: st) M Q := w1 mC_0 d0_734 rfl rfl
theorem d0_735 : decode cL_law 735 = .ok (.iaload, 1) := by decide +kernel
theorem k0_735 {d : Nat} {l0 l1 l2 l3 : Option PV} {st : List PV} {M : Mem} {Q : Option PV → Mem → Prop} {r : Nat} {j : Int32} (hk : mK M r = 13) (hj : inb j (mN M r)) : WP d 0 735 [l0, l1, l2, l3] (vi j :: vr r :: st) M Q = WP d 0 736 [l0, l1, l2, l3] (vi (mI M r (ix j)) :: st) M Q := w_sld mC_0 d0_735 hk hj
theorem d0_736 : decode cL_law 736 = .ok (.aload_n 0, 1) := by decide +kernel
theorem k0_736 {d x : Nat} {l1 l2 l3 : Option PV} {st : List PV} {M : Mem} {Q : Option PV → Mem → Prop} : WP d 0 736 [some (vr x), l1, l2, l3] (st) M Q = WP d 0 737 [some (vr x), l1, l2, l3] (vr x :: st) M Q := w1 mC_0 d0_736 rfl rfl
theorem d0_737 : decode cL_law 737 = .ok (.iload_n 3, 1) := by decide +kernel
theorem k0_737 {d : Nat} {x : Int32} {l0 l1 l2 : Option PV} {st : List PV} {M : Mem} {Q : Option PV → Mem → Prop} : WP d 0 737 [l0, l1, l2, some (vi x)] (st) M Q = WP d 0 738 [l0, l1, l2, some (vi x)] (vi x :: st) M Q := w1 mC_0 d0_737 rfl rfl
theorem d0_738 : decode cL_law 738 = .ok (.iconst 2, 1) := by decide +kernel
theorem k0_738 {d : Nat} {l0 l1 l2 l3 : Option PV} {st : List PV} {M : Mem} {Q : Option PV → Mem → Prop} : WP d 0 738 [l0, l1, l2, l3] (st) M Q = WP d 0 739 [l0, l1, l2, l3] (vi 2 :: st) M Q := w_iconst mC_0 d0_738 (by decide)
theorem d0_739 : decode cL_law 739 = .ok (.iadd, 1) := by decide +kernel
theorem k0_739 {d : Nat} {l0 l1 l2 l3 : Option PV} {st : List PV} {M : Mem} {Q : Option PV → Mem → Prop} {x y : Int32} : WP d 0 739 [l0, l1, l2, l3] (vi y :: vi x :: st) M Q = WP d 0 740 [l0, l1, l2, l3] (vi (x + y) :: st) M Q := w1 mC_0 d0_739 rfl rfl
theorem d0_740 : decode cL_law 740 = .ok (.iaload, 1) := by decide +kernel
theorem k0_740 {d : Nat} {l0 l1 l2 l3 : Option PV} {st : List PV} {M : Mem} {Q : Option PV → Mem → Prop} {r : Nat} {j : Int32} (hk : mK M r = 13) (hj : inb j (mN M r)) : WP d 0 740 [l0, l1, l2, l3] (vi j :: vr r :: st) M Q = WP d 0 741 [l0, l1, l2, l3] (vi (mI M r (ix j)) :: st) M Q := w_sld mC_0 d0_740 hk hj
theorem d0_741 : decode cL_law 741 = .ok (.invokevirtual 81, 3) := by decide +kernel
theorem k0_741 {d : Nat} {l0 l1 l2 l3 : Option PV} {st : List PV} {M : Mem} {Q : Option PV → Mem → Prop} {a0 a1 : Int32} {r : Nat} (hl : szL st ≤ 8) (hk : mK M r = 11) : WP (d + 1) 0 741 [l0, l1, l2, l3] (vi a1 :: vi a0 :: vr r :: st) M Q = WP d 101 0 [some (vr r), some (vi a0), some (vi a1), none, none] [] M (fun v M' => WP (d + 1) 0 744 [l0, l1, l2, l3] (psh v st) M' Q) := w_callV mC_0 d0_741 (ci := 11) rfl rfl rfl (Nat.le_of_ble_eq_true rfl) (by decide) rfl hl hk
theorem d0_744 : decode cL_law 744 = .ok (.aload_n 2, 1) := by decide +kernel
theorem k0_744 {d x : Nat} {l0 l1 l3 : Option PV} {st : List PV} {M : Mem} {Q : Option PV → Mem → Prop} : WP d 0 744 [l0, l1, some (vr x), l3] (st) M Q = WP d 0 745 [l0, l1, some (vr x), l3] (vr x :: st) M Q := w1 mC_0 d0_744 rfl rfl
theorem d0_745 : decode cL_law 745 = .ok (.aload_n 0, 1) := by decide +kernel
theorem k0_745 {d x : Nat} {l1 l2 l3 : Option PV} {st : List PV} {M : Mem} {Q : Option PV → Mem → Prop} : WP d 0 745 [some (vr x), l1, l2, l3] (st) M Q = WP d 0 746 [some (vr x), l1, l2, l3] (vr x :: st) M Q := w1 mC_0 d0_745 rfl rfl
theorem d0_746 : decode cL_law 746 = .ok (.iload_n 3, 1) := by decide +kernel
theorem k0_746 {d : Nat} {x : Int32} {l0 l1 l2 : Option PV} {st : List PV} {M : Mem} {Q : Option PV → Mem → Prop} : WP d 0 746 [l0, l1, l2, some (vi x)] (st) M Q = WP d 0 747 [l0, l1, l2, some (vi x)] (vi x :: st) M Q := w1 mC_0 d0_746 rfl rfl
theorem d0_747 : decode cL_law 747 = .ok (.iconst 1, 1) := by decide +kernel
theorem k0_747 {d : Nat} {l0 l1 l2 l3 : Option PV} {st : List PV} {M : Mem} {Q : Option PV → Mem → Prop} : WP d 0 747 [l0, l1, l2, l3] (st) M Q = WP d 0 748 [l0, l1, l2, l3] (vi 1 :: st) M Q := w_iconst mC_0 d0_747 (by decide)
theorem d0_748 : decode cL_law 748 = .ok (.iadd, 1) := by decide +kernel
theorem k0_748 {d : Nat} {l0 l1 l2 l3 : Option PV} {st : List PV} {M : Mem} {Q : Option PV → Mem → Prop} {x y : Int32} : WP d 0 748 [l0, l1, l2, l3] (vi y :: vi x :: st) M Q = WP d 0 749 [l0, l1, l2, l3] (vi (x + y) :: st) M Q := w1 mC_0 d0_748 rfl rfl
theorem d0_749 : decode cL_law 749 = .ok (.iaload, 1) := by decide +kernel
theorem k0_749 {d : Nat} {l0 l1 l2 l3 : Option PV} {st : List PV} {M : Mem} {Q : Option PV → Mem → Prop} {r : Nat} {j : Int32} (hk : mK M r = 13) (hj : inb j (mN M r)) : WP d 0 749 [l0, l1, l2, l3] (vi j :: vr r :: st) M Q = WP d 0 750 [l0, l1, l2, l3] (vi (mI M r (ix j)) :: st) M Q := w_sld mC_0 d0_749 hk hj
theorem d0_750 : decode cL_law 750 = .ok (.aload_n 0, 1) := by decide +kernel
theorem k0_750 {d x : Nat} {l1 l2 l3 : Option PV} {st : List PV} {M : Mem} {Q : Option PV → Mem → Prop} : WP d 0 750 [some (vr x), l1, l2, l3] (st) M Q = WP d 0 751 [some (vr x), l1, l2, l3] (vr x :: st) M Q := w1 mC_0 d0_750 rfl rfl
theorem d0_751 : decode cL_law 751 = .ok (.iload_n 3, 1) := by decide +kernel
theorem k0_751 {d : Nat} {x : Int32} {l0 l1 l2 : Option PV} {st : List PV} {M : Mem} {Q : Option PV → Mem → Prop} : WP d 0 751 [l0, l1, l2, some (vi x)] (st) M Q = WP d 0 752 [l0, l1, l2, some (vi x)] (vi x :: st) M Q := w1 mC_0 d0_751 rfl rfl
theorem d0_752 : decode cL_law 752 = .ok (.iconst 2, 1) := by decide +kernel
theorem k0_752 {d : Nat} {l0 l1 l2 l3 : Option PV} {st : List PV} {M : Mem} {Q : Option PV → Mem → Prop} : WP d 0 752 [l0, l1, l2, l3] (st) M Q = WP d 0 753 [l0, l1, l2, l3] (vi 2 :: st) M Q := w_iconst mC_0 d0_752 (by decide)
theorem d0_753 : decode cL_law 753 = .ok (.iadd, 1) := by decide +kernel
theorem k0_753 {d : Nat} {l0 l1 l2 l3 : Option PV} {st : List PV} {M : Mem} {Q : Option PV → Mem → Prop} {x y : Int32} : WP d 0 753 [l0, l1, l2, l3] (vi y :: vi x :: st) M Q = WP d 0 754 [l0, l1, l2, l3] (vi (x + y) :: st) M Q := w1 mC_0 d0_753 rfl rfl
theorem d0_754 : decode cL_law 754 = .ok (.iaload, 1) := by decide +kernel
theorem k0_754 {d : Nat} {l0 l1 l2 l3 : Option PV} {st : List PV} {M : Mem} {Q : Option PV → Mem → Prop} {r : Nat} {j : Int32} (hk : mK M r = 13) (hj : inb j (mN M r)) : WP d 0 754 [l0, l1, l2, l3] (vi j :: vr r :: st) M Q = WP d 0 755 [l0, l1, l2, l3] (vi (mI M r (ix j)) :: st) M Q := w_sld mC_0 d0_754 hk hj
theorem d0_755 : decode cL_law 755 = .ok (.invokevirtual 84, 3) := by decide +kernel
theorem k0_755 {d : Nat} {l0 l1 l2 l3 : Option PV} {st : List PV} {M : Mem} {Q : Option PV → Mem → Prop} {a0 a1 : Int32} {r : Nat} (hl : szL st ≤ 8) (hk : mK M r = 12) : WP (d + 1) 0 755 [l0, l1, l2, l3] (vi a1 :: vi a0 :: vr r :: st) M Q = WP d 210 0 [some (vr r), some (vi a0), some (vi a1), none, none] [] M (fun v M' => WP (d + 1) 0 758 [l0, l1, l2, l3] (psh v st) M' Q) := w_callV mC_0 d0_755 (ci := 12) rfl rfl rfl (Nat.le_of_ble_eq_true rfl) (by decide) rfl hl hk
theorem d0_758 : decode cL_law 758 = .ok (.if_icmp .eq 738, 3) := by decide +kernel
theorem k0_758 {d : Nat} {l0 l1 l2 l3 : Option PV} {st : List PV} {M : Mem} {Q : Option PV → Mem → Prop} {x y : Int32} : WP d 0 758 [l0, l1, l2, l3] (vi y :: vi x :: st) M Q = (if x = y then WP d 0 1496 [l0, l1, l2, l3] (st) M Q else WP d 0 761 [l0, l1, l2, l3] (st) M Q) := w_ic_eq mC_0 d0_758 (by decide)
theorem d0_761 : decode cL_law 761 = .ok (.iconst 0, 1) := by decide +kernel
theorem k0_761 {d : Nat} {l0 l1 l2 l3 : Option PV} {st : List PV} {M : Mem} {Q : Option PV → Mem → Prop} : WP d 0 761 [l0, l1, l2, l3] (st) M Q = WP d 0 762 [l0, l1, l2, l3] (vi 0 :: st) M Q := w_iconst mC_0 d0_761 (by decide)
theorem d0_762 : decode cL_law 762 = .ok (.ireturn, 1) := by decide +kernel
theorem k0_762 {d : Nat} {l0 l1 l2 l3 : Option PV} {M : Mem} {Q : Option PV → Mem → Prop} {x : Int32} (hx : x = 0 ∨ x = 1) : WP d 0 762 [l0, l1, l2, l3] ([vi x]) M Q = Q (some (vi x)) M := w_zret mC_0 d0_762 rfl hx
theorem d0_763 : decode cL_law 763 = .ok (.aload_n 1, 1) := by decide +kernel
theorem k0_763 {d x : Nat} {l0 l2 l3 : Option PV} {st : List PV} {M : Mem} {Q : Option PV → Mem → Prop} : WP d 0 763 [l0, some (vr x), l2, l3] (st) M Q = WP d 0 764 [l0, some (vr x), l2, l3] (vr x :: st) M Q := w1 mC_0 d0_763 rfl rfl
theorem d0_764 : decode cL_law 764 = .ok (.aload_n 0, 1) := by decide +kernel
theorem k0_764 {d x : Nat} {l1 l2 l3 : Option PV} {st : List PV} {M : Mem} {Q : Option PV → Mem → Prop} : WP d 0 764 [some (vr x), l1, l2, l3] (st) M Q = WP d 0 765 [some (vr x), l1, l2, l3] (vr x :: st) M Q := w1 mC_0 d0_764 rfl rfl
theorem d0_765 : decode cL_law 765 = .ok (.iload_n 3, 1) := by decide +kernel
theorem k0_765 {d : Nat} {x : Int32} {l0 l1 l2 : Option PV} {st : List PV} {M : Mem} {Q : Option PV → Mem → Prop} : WP d 0 765 [l0, l1, l2, some (vi x)] (st) M Q = WP d 0 766 [l0, l1, l2, some (vi x)] (vi x :: st) M Q := w1 mC_0 d0_765 rfl rfl
theorem d0_766 : decode cL_law 766 = .ok (.iconst 1, 1) := by decide +kernel
theorem k0_766 {d : Nat} {l0 l1 l2 l3 : Option PV} {st : List PV} {M : Mem} {Q : Option PV → Mem → Prop} : WP d 0 766 [l0, l1, l2, l3] (st) M Q = WP d 0 767 [l0, l1, l2, l3] (vi 1 :: st) M Q := w_iconst mC_0 d0_766 (by decide)
theorem d0_767 : decode cL_law 767 = .ok (.iadd, 1) := by decide +kernel
theorem k0_767 {d : Nat} {l0 l1 l2 l3 : Option PV} {st : List PV} {M : Mem} {Q : Option PV → Mem → Prop} {x y : Int32} : WP d 0 767 [l0, l1, l2, l3] (vi y :: vi x :: st) M Q = WP d 0 768 [l0, l1, l2, l3] (vi (x + y) :: st) M Q := w1 mC_0 d0_767 rfl rfl
theorem d0_768 : decode cL_law 768 = .ok (.iaload, 1) := by decide +kernel
theorem k0_768 {d : Nat} {l0 l1 l2 l3 : Option PV} {st : List PV} {M : Mem} {Q : Option PV → Mem → Prop} {r : Nat} {j : Int32} (hk : mK M r = 13) (hj : inb j (mN M r)) : WP d 0 768 [l0, l1, l2, l3] (vi j :: vr r :: st) M Q = WP d 0 769 [l0, l1, l2, l3] (vi (mI M r (ix j)) :: st) M Q := w_sld mC_0 d0_768 hk hj
theorem d0_769 : decode cL_law 769 = .ok (.aload_n 0, 1) := by decide +kernel
theorem k0_769 {d x : Nat} {l1 l2 l3 : Option PV} {st : List PV} {M : Mem} {Q : Option PV → Mem → Prop} : WP d 0 769 [some (vr x), l1, l2, l3] (st) M Q = WP d 0 770 [some (vr x), l1, l2, l3] (vr x :: st) M Q := w1 mC_0 d0_769 rfl rfl
theorem d0_770 : decode cL_law 770 = .ok (.iload_n 3, 1) := by decide +kernel
theorem k0_770 {d : Nat} {x : Int32} {l0 l1 l2 : Option PV} {st : List PV} {M : Mem} {Q : Option PV → Mem → Prop} : WP d 0 770 [l0, l1, l2, some (vi x)] (st) M Q = WP d 0 771 [l0, l1, l2, some (vi x)] (vi x :: st) M Q := w1 mC_0 d0_770 rfl rfl
theorem d0_771 : decode cL_law 771 = .ok (.iconst 2, 1) := by decide +kernel
theorem k0_771 {d : Nat} {l0 l1 l2 l3 : Option PV} {st : List PV} {M : Mem} {Q : Option PV → Mem → Prop} : WP d 0 771 [l0, l1, l2, l3] (st) M Q = WP d 0 772 [l0, l1, l2, l3] (vi 2 :: st) M Q := w_iconst mC_0 d0_771 (by decide)
theorem d0_772 : decode cL_law 772 = .ok (.iadd, 1) := by decide +kernel
theorem k0_772 {d : Nat} {l0 l1 l2 l3 : Option PV} {st : List PV} {M : Mem} {Q : Option PV → Mem → Prop} {x y : Int32} : WP d 0 772 [l0, l1, l2, l3] (vi y :: vi x :: st) M Q = WP d 0 773 [l0, l1, l2, l3] (vi (x + y) :: st) M Q := w1 mC_0 d0_772 rfl rfl
theorem d0_773 : decode cL_law 773 = .ok (.iaload, 1) := by decide +kernel
theorem k0_773 {d : Nat} {l0 l1 l2 l3 : Option PV} {st : List PV} {M : Mem} {Q : Option PV → Mem → Prop} {r : Nat} {j : Int32} (hk : mK M r = 13) (hj : inb j (mN M r)) : WP d 0 773 [l0, l1, l2, l3] (vi j :: vr r :: st) M Q = WP d 0 774 [l0, l1, l2, l3] (vi (mI M r (ix j)) :: st) M Q := w_sld mC_0 d0_773 hk hj
theorem d0_774 : decode cL_law 774 = .ok (.invokevirtual 85, 3) := by decide +kernel
theorem k0_774 {d : Nat} {l0 l1 l2 l3 : Option PV} {st : List PV} {M : Mem} {Q : Option PV → Mem → Prop} {a0 a1 : Int32} {r : Nat} (hl : szL st ≤ 8) (hk : mK M r = 11) : WP (d + 1) 0 774 [l0, l1, l2, l3] (vi a1 :: vi a0 :: vr r :: st) M Q = WP d 104 0 [some (vr r), some (vi a0), some (vi a1), none, none] [] M (fun v M' => WP (d + 1) 0 777 [l0, l1, l2, l3] (psh v st) M' Q) := w_callV mC_0 d0_774 (ci := 11) rfl rfl rfl (Nat.le_of_ble_eq_true rfl) (by decide) rfl hl hk
theorem d0_777 : decode cL_law 777 = .ok (.aload_n 2, 1) := by decide +kernel
theorem k0_777 {d x : Nat} {l0 l1 l3 : Option PV} {st : List PV} {M : Mem} {Q : Option PV → Mem → Prop} : WP d 0 777 [l0, l1, some (vr x), l3] (st) M Q = WP d 0 778 [l0, l1, some (vr x), l3] (vr x :: st) M Q := w1 mC_0 d0_777 rfl rfl
theorem d0_778 : decode cL_law 778 = .ok (.aload_n 0, 1) := by decide +kernel
theorem k0_778 {d x : Nat} {l1 l2 l3 : Option PV} {st : List PV} {M : Mem} {Q : Option PV → Mem → Prop} : WP d 0 778 [some (vr x), l1, l2, l3] (st) M Q = WP d 0 779 [some (vr x), l1, l2, l3] (vr x :: st) M Q := w1 mC_0 d0_778 rfl rfl
theorem d0_779 : decode cL_law 779 = .ok (.iload_n 3, 1) := by decide +kernel
theorem k0_779 {d : Nat} {x : Int32} {l0 l1 l2 : Option PV} {st : List PV} {M : Mem} {Q : Option PV → Mem → Prop} : WP d 0 779 [l0, l1, l2, some (vi x)] (st) M Q = WP d 0 780 [l0, l1, l2, some (vi x)] (vi x :: st) M Q := w1 mC_0 d0_779 rfl rfl
theorem d0_780 : decode cL_law 780 = .ok (.iconst 1, 1) := by decide +kernel
theorem k0_780 {d : Nat} {l0 l1 l2 l3 : Option PV} {st : List PV} {M : Mem} {Q : Option PV → Mem → Prop} : WP d 0 780 [l0, l1, l2, l3] (st) M Q = WP d 0 781 [l0, l1, l2, l3] (vi 1 :: st) M Q := w_iconst mC_0 d0_780 (by decide)
theorem d0_781 : decode cL_law 781 = .ok (.iadd, 1) := by decide +kernel
theorem k0_781 {d : Nat} {l0 l1 l2 l3 : Option PV} {st : List PV} {M : Mem} {Q : Option PV → Mem → Prop} {x y : Int32} : WP d 0 781 [l0, l1, l2, l3] (vi y :: vi x :: st) M Q = WP d 0 782 [l0, l1, l2, l3] (vi (x + y) :: st) M Q := w1 mC_0 d0_781 rfl rfl
theorem d0_782 : decode cL_law 782 = .ok (.iaload, 1) := by decide +kernel
theorem k0_782 {d : Nat} {l0 l1 l2 l3 : Option PV} {st : List PV} {M : Mem} {Q : Option PV → Mem → Prop} {r : Nat} {j : Int32} (hk : mK M r = 13) (hj : inb j (mN M r)) : WP d 0 782 [l0, l1, l2, l3] (vi j :: vr r :: st) M Q = WP d 0 783 [l0, l1, l2, l3] (vi (mI M r (ix j)) :: st) M Q := w_sld mC_0 d0_782 hk hj
theorem d0_783 : decode cL_law 783 = .ok (.aload_n 0, 1) := by decide +kernel
theorem k0_783 {d x : Nat} {l1 l2 l3 : Option PV} {st : List PV} {M : Mem} {Q : Option PV → Mem → Prop} : WP d 0 783 [some (vr x), l1, l2, l3] (st) M Q = WP d 0 784 [some (vr x), l1, l2, l3] (vr x :: st) M Q := w1 mC_0 d0_783 rfl rfl
theorem d0_784 : decode cL_law 784 = .ok (.iload_n 3, 1) := by decide +kernel
theorem k0_784 {d : Nat} {x : Int32} {l0 l1 l2 : Option PV} {st : List PV} {M : Mem} {Q : Option PV → Mem → Prop} : WP d 0 784 [l0, l1, l2, some (vi x)] (st) M Q = WP d 0 785 [l0, l1, l2, some (vi x)] (vi x :: st) M Q := w1 mC_0 d0_784 rfl rfl
theorem d0_785 : decode cL_law 785 = .ok (.iconst 2, 1) := by decide +kernel
theorem k0_785 {d : Nat} {l0 l1 l2 l3 : Option PV} {st : List PV} {M : Mem} {Q : Option PV → Mem → Prop} : WP d 0 785 [l0, l1, l2, l3] (st) M Q = WP d 0 786 [l0, l1, l2, l3] (vi 2 :: st) M Q := w_iconst mC_0 d0_785 (by decide)
theorem d0_786 : decode cL_law 786 = .ok (.iadd, 1) := by decide +kernel
theorem k0_786 {d : Nat} {l0 l1 l2 l3 : Option PV} {st : List PV} {M : Mem} {Q : Option PV → Mem → Prop} {x y : Int32} : WP d 0 786 [l0, l1, l2, l3] (vi y :: vi x :: st) M Q = WP d 0 787 [l0, l1, l2, l3] (vi (x + y) :: st) M Q := w1 mC_0 d0_786 rfl rfl
theorem d0_787 : decode cL_law 787 = .ok (.iaload, 1) := by decide +kernel
theorem k0_787 {d : Nat} {l0 l1 l2 l3 : Option PV} {st : List PV} {M : Mem} {Q : Option PV → Mem → Prop} {r : Nat} {j : Int32} (hk : mK M r = 13) (hj : inb j (mN M r)) : WP d 0 787 [l0, l1, l2, l3] (vi j :: vr r :: st) M Q = WP d 0 788 [l0, l1, l2, l3] (vi (mI M r (ix j)) :: st) M Q := w_sld mC_0 d0_787 hk hj
theorem d0_788 : decode cL_law 788 = .ok (.invokevirtual 88, 3) := by decide +kernel
theorem k0_788 {d : Nat} {l0 l1 l2 l3 : Option PV} {st : List PV} {M : Mem} {Q : Option PV → Mem → Prop} {a0 a1 : Int32} {r : Nat} (hl : szL st ≤ 8) (hk : mK M r = 12) : WP (d + 1) 0 788 [l0, l1, l2, l3] (vi a1 :: vi a0 :: vr r :: st) M Q = WP d 213 0 [some (vr r), some (vi a0), some (vi a1), none] [] M (fun v M' => WP (d + 1) 0 791 [l0, l1, l2, l3] (psh v st) M' Q) := w_callV mC_0 d0_788 (ci := 12) rfl rfl rfl (Nat.le_of_ble_eq_true rfl) (by decide) rfl hl hk
theorem d0_791 : decode cL_law 791 = .ok (.if_icmp .eq 705, 3) := by decide +kernel
theorem k0_791 {d : Nat} {l0 l1 l2 l3 : Option PV} {st : List PV} {M : Mem} {Q : Option PV → Mem → Prop} {x y : Int32} : WP d 0 791 [l0, l1, l2, l3] (vi y :: vi x :: st) M Q = (if x = y then WP d 0 1496 [l0, l1, l2, l3] (st) M Q else WP d 0 794 [l0, l1, l2, l3] (st) M Q) := w_ic_eq mC_0 d0_791 (by decide)
theorem d0_794 : decode cL_law 794 = .ok (.iconst 0, 1) := by decide +kernel
theorem k0_794 {d : Nat} {l0 l1 l2 l3 : Option PV} {st : List PV} {M : Mem} {Q : Option PV → Mem → Prop} : WP d 0 794 [l0, l1, l2, l3] (st) M Q = WP d 0 795 [l0, l1, l2, l3] (vi 0 :: st) M Q := w_iconst mC_0 d0_794 (by decide)
theorem d0_795 : decode cL_law 795 = .ok (.ireturn, 1) := by decide +kernel
theorem k0_795 {d : Nat} {l0 l1 l2 l3 : Option PV} {M : Mem} {Q : Option PV → Mem → Prop} {x : Int32} (hx : x = 0 ∨ x = 1) : WP d 0 795 [l0, l1, l2, l3] ([vi x]) M Q = Q (some (vi x)) M := w_zret mC_0 d0_795 rfl hx
theorem d0_796 : decode cL_law 796 = .ok (.aload_n 1, 1) := by decide +kernel
theorem k0_796 {d x : Nat} {l0 l2 l3 : Option PV} {st : List PV} {M : Mem} {Q : Option PV → Mem → Prop} : WP d 0 796 [l0, some (vr x), l2, l3] (st) M Q = WP d 0 797 [l0, some (vr x), l2, l3] (vr x :: st) M Q := w1 mC_0 d0_796 rfl rfl
theorem d0_797 : decode cL_law 797 = .ok (.aload_n 0, 1) := by decide +kernel
theorem k0_797 {d x : Nat} {l1 l2 l3 : Option PV} {st : List PV} {M : Mem} {Q : Option PV → Mem → Prop} : WP d 0 797 [some (vr x), l1, l2, l3] (st) M Q = WP d 0 798 [some (vr x), l1, l2, l3] (vr x :: st) M Q := w1 mC_0 d0_797 rfl rfl
theorem d0_798 : decode cL_law 798 = .ok (.iload_n 3, 1) := by decide +kernel
theorem k0_798 {d : Nat} {x : Int32} {l0 l1 l2 : Option PV} {st : List PV} {M : Mem} {Q : Option PV → Mem → Prop} : WP d 0 798 [l0, l1, l2, some (vi x)] (st) M Q = WP d 0 799 [l0, l1, l2, some (vi x)] (vi x :: st) M Q := w1 mC_0 d0_798 rfl rfl
theorem d0_799 : decode cL_law 799 = .ok (.iconst 1, 1) := by decide +kernel
theorem k0_799 {d : Nat} {l0 l1 l2 l3 : Option PV} {st : List PV} {M : Mem} {Q : Option PV → Mem → Prop} : WP d 0 799 [l0, l1, l2, l3] (st) M Q = WP d 0 800 [l0, l1, l2, l3] (vi 1 :: st) M Q := w_iconst mC_0 d0_799 (by decide)
theorem d0_800 : decode cL_law 800 = .ok (.iadd, 1) := by decide +kernel
theorem k0_800 {d : Nat} {l0 l1 l2 l3 : Option PV} {st : List PV} {M : Mem} {Q : Option PV → Mem → Prop} {x y : Int32} : WP d 0 800 [l0, l1, l2, l3] (vi y :: vi x :: st) M Q = WP d 0 801 [l0, l1, l2, l3] (vi (x + y) :: st) M Q := w1 mC_0 d0_800 rfl rfl
theorem d0_801 : decode cL_law 801 = .ok (.iaload, 1) := by decide +kernel
theorem k0_801 {d : Nat} {l0 l1 l2 l3 : Option PV} {st : List PV} {M : Mem} {Q : Option PV → Mem → Prop} {r : Nat} {j : Int32} (hk : mK M r = 13) (hj : inb j (mN M r)) : WP d 0 801 [l0, l1, l2, l3] (vi j :: vr r :: st) M Q = WP d 0 802 [l0, l1, l2, l3] (vi (mI M r (ix j)) :: st) M Q := w_sld mC_0 d0_801 hk hj
theorem d0_802 : decode cL_law 802 = .ok (.aload_n 0, 1) := by decide +kernel
theorem k0_802 {d x : Nat} {l1 l2 l3 : Option PV} {st : List PV} {M : Mem} {Q : Option PV → Mem → Prop} : WP d 0 802 [some (vr x), l1, l2, l3] (st) M Q = WP d 0 803 [some (vr x), l1, l2, l3] (vr x :: st) M Q := w1 mC_0 d0_802 rfl rfl
theorem d0_803 : decode cL_law 803 = .ok (.iload_n 3, 1) := by decide +kernel
theorem k0_803 {d : Nat} {x : Int32} {l0 l1 l2 : Option PV} {st : List PV} {M : Mem} {Q : Option PV → Mem → Prop} : WP d 0 803 [l0, l1, l2, some (vi x)] (st) M Q = WP d 0 804 [l0, l1, l2, some (vi x)] (vi x :: st) M Q := w1 mC_0 d0_803 rfl rfl
theorem d0_804 : decode cL_law 804 = .ok (.iconst 2, 1) := by decide +kernel
theorem k0_804 {d : Nat} {l0 l1 l2 l3 : Option PV} {st : List PV} {M : Mem} {Q : Option PV → Mem → Prop} : WP d 0 804 [l0, l1, l2, l3] (st) M Q = WP d 0 805 [l0, l1, l2, l3] (vi 2 :: st) M Q := w_iconst mC_0 d0_804 (by decide)
theorem d0_805 : decode cL_law 805 = .ok (.iadd, 1) := by decide +kernel
theorem k0_805 {d : Nat} {l0 l1 l2 l3 : Option PV} {st : List PV} {M : Mem} {Q : Option PV → Mem → Prop} {x y : Int32} : WP d 0 805 [l0, l1, l2, l3] (vi y :: vi x :: st) M Q = WP d 0 806 [l0, l1, l2, l3] (vi (x + y) :: st) M Q := w1 mC_0 d0_805 rfl rfl
theorem d0_806 : decode cL_law 806 = .ok (.iaload, 1) := by decide +kernel
theorem k0_806 {d : Nat} {l0 l1 l2 l3 : Option PV} {st : List PV} {M : Mem} {Q : Option PV → Mem → Prop} {r : Nat} {j : Int32} (hk : mK M r = 13) (hj : inb j (mN M r)) : WP d 0 806 [l0, l1, l2, l3] (vi j :: vr r :: st) M Q = WP d 0 807 [l0, l1, l2, l3] (vi (mI M r (ix j)) :: st) M Q := w_sld mC_0 d0_806 hk hj
theorem d0_807 : decode cL_law 807 = .ok (.aload_n 0, 1) := by decide +kernel
theorem k0_807 {d x : Nat} {l1 l2 l3 : Option PV} {st : List PV} {M : Mem} {Q : Option PV → Mem → Prop} : WP d 0 807 [some (vr x), l1, l2, l3] (st) M Q = WP d 0 808 [some (vr x), l1, l2, l3] (vr x :: st) M Q := w1 mC_0 d0_807 rfl rfl
theorem d0_808 : decode cL_law 808 = .ok (.iload_n 3, 1) := by decide +kernel
theorem k0_808 {d : Nat} {x : Int32} {l0 l1 l2 : Option PV} {st : List PV} {M : Mem} {Q : Option PV → Mem → Prop} : WP d 0 808 [l0, l1, l2, some (vi x)] (st) M Q = WP d 0 809 [l0, l1, l2, some (vi x)] (vi x :: st) M Q := w1 mC_0 d0_808 rfl rfl
theorem d0_809 : decode cL_law 809 = .ok (.iconst 3, 1) := by decide +kernel
theorem k0_809 {d : Nat} {l0 l1 l2 l3 : Option PV} {st : List PV} {M : Mem} {Q : Option PV → Mem → Prop} : WP d 0 809 [l0, l1, l2, l3] (st) M Q = WP d 0 810 [l0, l1, l2, l3] (vi 3 :: st) M Q := w_iconst mC_0 d0_809 (by decide)
theorem d0_810 : decode cL_law 810 = .ok (.iadd, 1) := by decide +kernel
theorem k0_810 {d : Nat} {l0 l1 l2 l3 : Option PV} {st : List PV} {M : Mem} {Q : Option PV → Mem → Prop} {x y : Int32} : WP d 0 810 [l0, l1, l2, l3] (vi y :: vi x :: st) M Q = WP d 0 811 [l0, l1, l2, l3] (vi (x + y) :: st) M Q := w1 mC_0 d0_810 rfl rfl
theorem d0_811 : decode cL_law 811 = .ok (.iaload, 1) := by decide +kernel
theorem k0_811 {d : Nat} {l0 l1 l2 l3 : Option PV} {st : List PV} {M : Mem} {Q : Option PV → Mem → Prop} {r : Nat} {j : Int32} (hk : mK M r = 13) (hj : inb j (mN M r)) : WP d 0 811 [l0, l1, l2, l3] (vi j :: vr r :: st) M Q = WP d 0 812 [l0, l1, l2, l3] (vi (mI M r (ix j)) :: st) M Q := w_sld mC_0 d0_811 hk hj
theorem d0_812 : decode cL_law 812 = .ok (.invokevirtual 89, 3) := by decide +kernel
theorem k0_812 {d : Nat} {l0 l1 l2 l3 : Option PV} {st : List PV} {M : Mem} {Q : Option PV → Mem → Prop} {a0 a1 a2 : Int32} {r : Nat} (hl : szL st ≤ 8) (hk : mK M r = 11) : WP (d + 1) 0 812 [l0, l1, l2, l3] (vi a2 :: vi a1 :: vi a0 :: vr r :: st) M Q = WP d 107 0 [some (vr r), some (vi a0), some (vi a1), some (vi a2), none, none] [] M (fun v M' => WP (d + 1) 0 815 [l0, l1, l2, l3] (psh v st) M' Q) := w_callV mC_0 d0_812 (ci := 11) rfl rfl rfl (Nat.le_of_ble_eq_true rfl) (by decide) rfl hl hk
theorem d0_815 : decode cL_law 815 = .ok (.aload_n 2, 1) := by decide +kernel
theorem k0_815 {d x : Nat} {l0 l1 l3 : Option PV} {st : List PV} {M : Mem} {Q : Option PV → Mem → Prop} : WP d 0 815 [l0, l1, some (vr x), l3] (st) M Q = WP d 0 816 [l0, l1, some (vr x), l3] (vr x :: st) M Q := w1 mC_0 d0_815 rfl rfl
theorem d0_816 : decode cL_law 816 = .ok (.aload_n 0, 1) := by decide +kernel
theorem k0_816 {d x : Nat} {l1 l2 l3 : Option PV} {st : List PV} {M : Mem} {Q : Option PV → Mem → Prop} : WP d 0 816 [some (vr x), l1, l2, l3] (st) M Q = WP d 0 817 [some (vr x), l1, l2, l3] (vr x :: st) M Q := w1 mC_0 d0_816 rfl rfl
theorem d0_817 : decode cL_law 817 = .ok (.iload_n 3, 1) := by decide +kernel
theorem k0_817 {d : Nat} {x : Int32} {l0 l1 l2 : Option PV} {st : List PV} {M : Mem} {Q : Option PV → Mem → Prop} : WP d 0 817 [l0, l1, l2, some (vi x)] (st) M Q = WP d 0 818 [l0, l1, l2, some (vi x)] (vi x :: st) M Q := w1 mC_0 d0_817 rfl rfl
theorem d0_818 : decode cL_law 818 = .ok (.iconst 1, 1) := by decide +kernel
theorem k0_818 {d : Nat} {l0 l1 l2 l3 : Option PV} {st : List PV} {M : Mem} {Q : Option PV → Mem → Prop} : WP d 0 818 [l0, l1, l2, l3] (st) M Q = WP d 0 819 [l0, l1, l2, l3] (vi 1 :: st) M Q := w_iconst mC_0 d0_818 (by decide)
theorem d0_819 : decode cL_law 819 = .ok (.iadd, 1) := by decide +kernel
theorem k0_819 {d : Nat} {l0 l1 l2 l3 : Option PV} {st : List PV} {M : Mem} {Q : Option PV → Mem → Prop} {x y : Int32} : WP d 0 819 [l0, l1, l2, l3] (vi y :: vi x :: st) M Q = WP d 0 820 [l0, l1, l2, l3] (vi (x + y) :: st) M Q := w1 mC_0 d0_819 rfl rfl
theorem d0_820 : decode cL_law 820 = .ok (.iaload, 1) := by decide +kernel
theorem k0_820 {d : Nat} {l0 l1 l2 l3 : Option PV} {st : List PV} {M : Mem} {Q : Option PV → Mem → Prop} {r : Nat} {j : Int32} (hk : mK M r = 13) (hj : inb j (mN M r)) : WP d 0 820 [l0, l1, l2, l3] (vi j :: vr r :: st) M Q = WP d 0 821 [l0, l1, l2, l3] (vi (mI M r (ix j)) :: st) M Q := w_sld mC_0 d0_820 hk hj
theorem d0_821 : decode cL_law 821 = .ok (.aload_n 0, 1) := by decide +kernel
theorem k0_821 {d x : Nat} {l1 l2 l3 : Option PV} {st : List PV} {M : Mem} {Q : Option PV → Mem → Prop} : WP d 0 821 [some (vr x), l1, l2, l3] (st) M Q = WP d 0 822 [some (vr x), l1, l2, l3] (vr x :: st) M Q := w1 mC_0 d0_821 rfl rfl
theorem d0_822 : decode cL_law 822 = .ok (.iload_n 3, 1) := by decide +kernel
theorem k0_822 {d : Nat} {x : Int32} {l0 l1 l2 : Option PV} {st : List PV} {M : Mem} {Q : Option PV → Mem → Prop} : WP d 0 822 [l0, l1, l2, some (vi x)] (st) M Q = WP d 0 823 [l0, l1, l2, some (vi x)] (vi x :: st) M Q := w1 mC_0 d0_822 rfl rfl
theorem d0_823 : decode cL_law 823 = .ok (.iconst 2, 1) := by decide +kernel
theorem k0_823 {d : Nat} {l0 l1 l2 l3 : Option PV} {st : List PV} {M : Mem} {Q : Option PV → Mem → Prop} : WP d 0 823 [l0, l1, l2, l3] (st) M Q = WP d 0 824 [l0, l1, l2, l3] (vi 2 :: st) M Q := w_iconst mC_0 d0_823 (by decide)
theorem d0_824 : decode cL_law 824 = .ok (.iadd, 1) := by decide +kernel
theorem k0_824 {d : Nat} {l0 l1 l2 l3 : Option PV} {st : List PV} {M : Mem} {Q : Option PV → Mem → Prop} {x y : Int32} : WP d 0 824 [l0, l1, l2, l3] (vi y :: vi x :: st) M Q = WP d 0 825 [l0, l1, l2, l3] (vi (x + y) :: st) M Q := w1 mC_0 d0_824 rfl rfl
theorem d0_825 : decode cL_law 825 = .ok (.iaload, 1) := by decide +kernel
theorem k0_825 {d : Nat} {l0 l1 l2 l3 : Option PV} {st : List PV} {M : Mem} {Q : Option PV → Mem → Prop} {r : Nat} {j : Int32} (hk : mK M r = 13) (hj : inb j (mN M r)) : WP d 0 825 [l0, l1, l2, l3] (vi j :: vr r :: st) M Q = WP d 0 826 [l0, l1, l2, l3] (vi (mI M r (ix j)) :: st) M Q := w_sld mC_0 d0_825 hk hj
theorem d0_826 : decode cL_law 826 = .ok (.aload_n 0, 1) := by decide +kernel
theorem k0_826 {d x : Nat} {l1 l2 l3 : Option PV} {st : List PV} {M : Mem} {Q : Option PV → Mem → Prop} : WP d 0 826 [some (vr x), l1, l2, l3] (st) M Q = WP d 0 827 [some (vr x), l1, l2, l3] (vr x :: st) M Q := w1 mC_0 d0_826 rfl rfl
theorem d0_827 : decode cL_law 827 = .ok (.iload_n 3, 1) := by decide +kernel
theorem k0_827 {d : Nat} {x : Int32} {l0 l1 l2 : Option PV} {st : List PV} {M : Mem} {Q : Option PV → Mem → Prop} : WP d 0 827 [l0, l1, l2, some (vi x)] (st) M Q = WP d 0 828 [l0, l1, l2, some (vi x)] (vi x :: st) M Q := w1 mC_0 d0_827 rfl rfl
theorem d0_828 : decode cL_law 828 = .ok (.iconst 3, 1) := by decide +kernel
theorem k0_828 {d : Nat} {l0 l1 l2 l3 : Option PV} {st : List PV} {M : Mem} {Q : Option PV → Mem → Prop} : WP d 0 828 [l0, l1, l2, l3] (st) M Q = WP d 0 829 [l0, l1, l2, l3] (vi 3 :: st) M Q := w_iconst mC_0 d0_828 (by decide)
theorem d0_829 : decode cL_law 829 = .ok (.iadd, 1) := by decide +kernel
theorem k0_829 {d : Nat} {l0 l1 l2 l3 : Option PV} {st : List PV} {M : Mem} {Q : Option PV → Mem → Prop} {x y : Int32} : WP d 0 829 [l0, l1, l2, l3] (vi y :: vi x :: st) M Q = WP d 0 830 [l0, l1, l2, l3] (vi (x + y) :: st) M Q := w1 mC_0 d0_829 rfl rfl
theorem d0_830 : decode cL_law 830 = .ok (.iaload, 1) := by decide +kernel
theorem k0_830 {d : Nat} {l0 l1 l2 l3 : Option PV} {st : List PV} {M : Mem} {Q : Option PV → Mem → Prop} {r : Nat} {j : Int32} (hk : mK M r = 13) (hj : inb j (mN M r)) : WP d 0 830 [l0, l1, l2, l3] (vi j :: vr r :: st) M Q = WP d 0 831 [l0, l1, l2, l3] (vi (mI M r (ix j)) :: st) M Q := w_sld mC_0 d0_830 hk hj
theorem d0_831 : decode cL_law 831 = .ok (.invokevirtual 92, 3) := by decide +kernel
theorem k0_831 {d : Nat} {l0 l1 l2 l3 : Option PV} {st : List PV} {M : Mem} {Q : Option PV → Mem → Prop} {a0 a1 a2 : Int32} {r : Nat} (hl : szL st ≤ 8) (hk : mK M r = 12) : WP (d + 1) 0 831 [l0, l1, l2, l3] (vi a2 :: vi a1 :: vi a0 :: vr r :: st) M Q = WP d 214 0 [some (vr r), some (vi a0), some (vi a1), some (vi a2), none, none, none, none, none] [] M (fun v M' => WP (d + 1) 0 834 [l0, l1, l2, l3] (psh v st) M' Q) := w_callV mC_0 d0_831 (ci := 12) rfl rfl rfl (Nat.le_of_ble_eq_true rfl) (by decide) rfl hl hk
theorem d0_834 : decode cL_law 834 = .ok (.if_icmp .eq 662, 3) := by decide +kernel
theorem k0_834 {d : Nat} {l0 l1 l2 l3 : Option PV} {st : List PV} {M : Mem} {Q : Option PV → Mem → Prop} {x y : Int32} : WP d 0 834 [l0, l1, l2, l3] (vi y :: vi x :: st) M Q = (if x = y then WP d 0 1496 [l0, l1, l2, l3] (st) M Q else WP d 0 837 [l0, l1, l2, l3] (st) M Q) := w_ic_eq mC_0 d0_834 (by decide)
theorem d0_837 : decode cL_law 837 = .ok (.iconst 0, 1) := by decide +kernel
theorem k0_837 {d : Nat} {l0 l1 l2 l3 : Option PV} {st : List PV} {M : Mem} {Q : Option PV → Mem → Prop} : WP d 0 837 [l0, l1, l2, l3] (st) M Q = WP d 0 838 [l0, l1, l2, l3] (vi 0 :: st) M Q := w_iconst mC_0 d0_837 (by decide)
theorem d0_838 : decode cL_law 838 = .ok (.ireturn, 1) := by decide +kernel
theorem k0_838 {d : Nat} {l0 l1 l2 l3 : Option PV} {M : Mem} {Q : Option PV → Mem → Prop} {x : Int32} (hx : x = 0 ∨ x = 1) : WP d 0 838 [l0, l1, l2, l3] ([vi x]) M Q = Q (some (vi x)) M := w_zret mC_0 d0_838 rfl hx
theorem d0_839 : decode cL_law 839 = .ok (.aload_n 1, 1) := by decide +kernel
theorem k0_839 {d x : Nat} {l0 l2 l3 : Option PV} {st : List PV} {M : Mem} {Q : Option PV → Mem → Prop} : WP d 0 839 [l0, some (vr x), l2, l3] (st) M Q = WP d 0 840 [l0, some (vr x), l2, l3] (vr x :: st) M Q := w1 mC_0 d0_839 rfl rfl
theorem d0_840 : decode cL_law 840 = .ok (.invokevirtual 93, 3) := by decide +kernel
theorem k0_840 {d : Nat} {l0 l1 l2 l3 : Option PV} {st : List PV} {M : Mem} {Q : Option PV → Mem → Prop} {r : Nat} (hl : szL st ≤ 8) (hk : mK M r = 11) : WP (d + 1) 0 840 [l0, l1, l2, l3] (vr r :: st) M Q = WP d 110 0 [some (vr r), none, none, none] [] M (fun v M' => WP (d + 1) 0 843 [l0, l1, l2, l3] (psh v st) M' Q) := w_callV mC_0 d0_840 (ci := 11) rfl rfl rfl (Nat.le_of_ble_eq_true rfl) (by decide) rfl hl hk
theorem d0_843 : decode cL_law 843 = .ok (.aload_n 2, 1) := by decide +kernel
theorem k0_843 {d x : Nat} {l0 l1 l3 : Option PV} {st : List PV} {M : Mem} {Q : Option PV → Mem → Prop} : WP d 0 843 [l0, l1, some (vr x), l3] (st) M Q = WP d 0 844 [l0, l1, some (vr x), l3] (vr x :: st) M Q := w1 mC_0 d0_843 rfl rfl
theorem d0_844 : decode cL_law 844 = .ok (.invokevirtual 96, 3) := by decide +kernel
theorem k0_844 {d : Nat} {l0 l1 l2 l3 : Option PV} {st : List PV} {M : Mem} {Q : Option PV → Mem → Prop} {r : Nat} (hl : szL st ≤ 8) (hk : mK M r = 12) : WP (d + 1) 0 844 [l0, l1, l2, l3] (vr r :: st) M Q = WP d 215 0 [some (vr r), none, none, none, none, none] [] M (fun v M' => WP (d + 1) 0 847 [l0, l1, l2, l3] (psh v st) M' Q) := w_callV mC_0 d0_844 (ci := 12) rfl rfl rfl (Nat.le_of_ble_eq_true rfl) (by decide) rfl hl hk
theorem d0_847 : decode cL_law 847 = .ok (.if_icmp .eq 649, 3) := by decide +kernel
theorem k0_847 {d : Nat} {l0 l1 l2 l3 : Option PV} {st : List PV} {M : Mem} {Q : Option PV → Mem → Prop} {x y : Int32} : WP d 0 847 [l0, l1, l2, l3] (vi y :: vi x :: st) M Q = (if x = y then WP d 0 1496 [l0, l1, l2, l3] (st) M Q else WP d 0 850 [l0, l1, l2, l3] (st) M Q) := w_ic_eq mC_0 d0_847 (by decide)
theorem d0_850 : decode cL_law 850 = .ok (.iconst 0, 1) := by decide +kernel
theorem k0_850 {d : Nat} {l0 l1 l2 l3 : Option PV} {st : List PV} {M : Mem} {Q : Option PV → Mem → Prop} : WP d 0 850 [l0, l1, l2, l3] (st) M Q = WP d 0 851 [l0, l1, l2, l3] (vi 0 :: st) M Q := w_iconst mC_0 d0_850 (by decide)
theorem d0_851 : decode cL_law 851 = .ok (.ireturn, 1) := by decide +kernel
theorem k0_851 {d : Nat} {l0 l1 l2 l3 : Option PV} {M : Mem} {Q : Option PV → Mem → Prop} {x : Int32} (hx : x = 0 ∨ x = 1) : WP d 0 851 [l0, l1, l2, l3] ([vi x]) M Q = Q (some (vi x)) M := w_zret mC_0 d0_851 rfl hx
theorem d0_852 : decode cL_law 852 = .ok (.aload_n 1, 1) := by decide +kernel
theorem k0_852 {d x : Nat} {l0 l2 l3 : Option PV} {st : List PV} {M : Mem} {Q : Option PV → Mem → Prop} : WP d 0 852 [l0, some (vr x), l2, l3] (st) M Q = WP d 0 853 [l0, some (vr x), l2, l3] (vr x :: st) M Q := w1 mC_0 d0_852 rfl rfl
theorem d0_853 : decode cL_law 853 = .ok (.aload_n 0, 1) := by decide +kernel
theorem k0_853 {d x : Nat} {l1 l2 l3 : Option PV} {st : List PV} {M : Mem} {Q : Option PV → Mem → Prop} : WP d 0 853 [some (vr x), l1, l2, l3] (st) M Q = WP d 0 854 [some (vr x), l1, l2, l3] (vr x :: st) M Q := w1 mC_0 d0_853 rfl rfl
theorem d0_854 : decode cL_law 854 = .ok (.iload_n 3, 1) := by decide +kernel
theorem k0_854 {d : Nat} {x : Int32} {l0 l1 l2 : Option PV} {st : List PV} {M : Mem} {Q : Option PV → Mem → Prop} : WP d 0 854 [l0, l1, l2, some (vi x)] (st) M Q = WP d 0 855 [l0, l1, l2, some (vi x)] (vi x :: st) M Q := w1 mC_0 d0_854 rfl rfl
theorem d0_855 : decode cL_law 855 = .ok (.iconst 1, 1) := by decide +kernel
theorem k0_855 {d : Nat} {l0 l1 l2 l3 : Option PV} {st : List PV} {M : Mem} {Q : Option PV → Mem → Prop} : WP d 0 855 [l0, l1, l2, l3] (st) M Q = WP d 0 856 [l0, l1, l2, l3] (vi 1 :: st) M Q := w_iconst mC_0 d0_855 (by decide)
theorem d0_856 : decode cL_law 856 = .ok (.iadd, 1) := by decide +kernel
theorem k0_856 {d : Nat} {l0 l1 l2 l3 : Option PV} {st : List PV} {M : Mem} {Q : Option PV → Mem → Prop} {x y : Int32} : WP d 0 856 [l0, l1, l2, l3] (vi y :: vi x :: st) M Q = WP d 0 857 [l0, l1, l2, l3] (vi (x + y) :: st) M Q := w1 mC_0 d0_856 rfl rfl
theorem d0_857 : decode cL_law 857 = .ok (.iaload, 1) := by decide +kernel
theorem k0_857 {d : Nat} {l0 l1 l2 l3 : Option PV} {st : List PV} {M : Mem} {Q : Option PV → Mem → Prop} {r : Nat} {j : Int32} (hk : mK M r = 13) (hj : inb j (mN M r)) : WP d 0 857 [l0, l1, l2, l3] (vi j :: vr r :: st) M Q = WP d 0 858 [l0, l1, l2, l3] (vi (mI M r (ix j)) :: st) M Q := w_sld mC_0 d0_857 hk hj
theorem d0_858 : decode cL_law 858 = .ok (.invokevirtual 97, 3) := by decide +kernel
theorem k0_858 {d : Nat} {l0 l1 l2 l3 : Option PV} {st : List PV} {M : Mem} {Q : Option PV → Mem → Prop} {a0 : Int32} {r : Nat} (hl : szL st ≤ 8) (hk : mK M r = 11) : WP (d + 1) 0 858 [l0, l1, l2, l3] (vi a0 :: vr r :: st) M Q = WP d 112 0 [some (vr r), some (vi a0), none, none, none, none] [] M (fun v M' => WP (d + 1) 0 861 [l0, l1, l2, l3] (psh v st) M' Q) := w_callV mC_0 d0_858 (ci := 11) rfl rfl rfl (Nat.le_of_ble_eq_true rfl) (by decide) rfl hl hk
theorem d0_861 : decode cL_law 861 = .ok (.aload_n 2, 1) := by decide +kernel
theorem k0_861 {d x : Nat} {l0 l1 l3 : Option PV} {st : List PV} {M : Mem} {Q : Option PV → Mem → Prop} : WP d 0 861 [l0, l1, some (vr x), l3] (st) M Q = WP d 0 862 [l0, l1, some (vr x), l3] (vr x :: st) M Q := w1 mC_0 d0_861 rfl rfl
theorem d0_862 : decode cL_law 862 = .ok (.aload_n 0, 1) := by decide +kernel
theorem k0_862 {d x : Nat} {l1 l2 l3 : Option PV} {st : List PV} {M : Mem} {Q : Option PV → Mem → Prop} : WP d 0 862 [some (vr x), l1, l2, l3] (st) M Q = WP d 0 863 [some (vr x), l1, l2, l3] (vr x :: st) M Q := w1 mC_0 d0_862 rfl rfl
theorem d0_863 : decode cL_law 863 = .ok (.iload_n 3, 1) := by decide +kernel
theorem k0_863 {d : Nat} {x : Int32} {l0 l1 l2 : Option PV} {st : List PV} {M : Mem} {Q : Option PV → Mem → Prop} : WP d 0 863 [l0, l1, l2, some (vi x)] (st) M Q = WP d 0 864 [l0, l1, l2, some (vi x)] (vi x :: st) M Q := w1 mC_0 d0_863 rfl rfl
theorem d0_864 : decode cL_law 864 = .ok (.iconst 1, 1) := by decide +kernel
theorem k0_864 {d : Nat} {l0 l1 l2 l3 : Option PV} {st : List PV} {M : Mem} {Q : Option PV → Mem → Prop} : WP d 0 864 [l0, l1, l2, l3] (st) M Q = WP d 0 865 [l0, l1, l2, l3] (vi 1 :: st) M Q := w_iconst mC_0 d0_864 (by decide)
theorem d0_865 : decode cL_law 865 = .ok (.iadd, 1) := by decide +kernel
theorem k0_865 {d : Nat} {l0 l1 l2 l3 : Option PV} {st : List PV} {M : Mem} {Q : Option PV → Mem → Prop} {x y : Int32} : WP d 0 865 [l0, l1, l2, l3] (vi y :: vi x :: st) M Q = WP d 0 866 [l0, l1, l2, l3] (vi (x + y) :: st) M Q := w1 mC_0 d0_865 rfl rfl
theorem d0_866 : decode cL_law 866 = .ok (.iaload, 1) := by decide +kernel
theorem k0_866 {d : Nat} {l0 l1 l2 l3 : Option PV} {st : List PV} {M : Mem} {Q : Option PV → Mem → Prop} {r : Nat} {j : Int32} (hk : mK M r = 13) (hj : inb j (mN M r)) : WP d 0 866 [l0, l1, l2, l3] (vi j :: vr r :: st) M Q = WP d 0 867 [l0, l1, l2, l3] (vi (mI M r (ix j)) :: st) M Q := w_sld mC_0 d0_866 hk hj
theorem d0_867 : decode cL_law 867 = .ok (.invokevirtual 100, 3) := by decide +kernel
theorem k0_867 {d : Nat} {l0 l1 l2 l3 : Option PV} {st : List PV} {M : Mem} {Q : Option PV → Mem → Prop} {a0 : Int32} {r : Nat} (hl : szL st ≤ 8) (hk : mK M r = 12) : WP (d + 1) 0 867 [l0, l1, l2, l3] (vi a0 :: vr r :: st) M Q = WP d 217 0 [some (vr r), some (vi a0), none, none, none] [] M (fun v M' => WP (d + 1) 0 870 [l0, l1, l2, l3] (psh v st) M' Q) := w_callV mC_0 d0_867 (ci := 12) rfl rfl rfl (Nat.le_of_ble_eq_true rfl) (by decide) rfl hl hk
theorem d0_870 : decode cL_law 870 = .ok (.if_icmp .eq 626, 3) := by decide +kernel
theorem k0_870 {d : Nat} {l0 l1 l2 l3 : Option PV} {st : List PV} {M : Mem} {Q : Option PV → Mem → Prop} {x y : Int32} : WP d 0 870 [l0, l1, l2, l3] (vi y :: vi x :: st) M Q = (if x = y then WP d 0 1496 [l0, l1, l2, l3] (st) M Q else WP d 0 873 [l0, l1, l2, l3] (st) M Q) := w_ic_eq mC_0 d0_870 (by decide)
theorem d0_873 : decode cL_law 873 = .ok (.iconst 0, 1) := by decide +kernel
theorem k0_873 {d : Nat} {l0 l1 l2 l3 : Option PV} {st : List PV} {M : Mem} {Q : Option PV → Mem → Prop} : WP d 0 873 [l0, l1, l2, l3] (st) M Q = WP d 0 874 [l0, l1, l2, l3] (vi 0 :: st) M Q := w_iconst mC_0 d0_873 (by decide)
theorem d0_874 : decode cL_law 874 = .ok (.ireturn, 1) := by decide +kernel
theorem k0_874 {d : Nat} {l0 l1 l2 l3 : Option PV} {M : Mem} {Q : Option PV → Mem → Prop} {x : Int32} (hx : x = 0 ∨ x = 1) : WP d 0 874 [l0, l1, l2, l3] ([vi x]) M Q = Q (some (vi x)) M := w_zret mC_0 d0_874 rfl hx
theorem d0_875 : decode cL_law 875 = .ok (.aload_n 1, 1) := by decide +kernel
theorem k0_875 {d x : Nat} {l0 l2 l3 : Option PV} {st : List PV} {M : Mem} {Q : Option PV → Mem → Prop} : WP d 0 875 [l0, some (vr x), l2, l3] (st) M Q = WP d 0 876 [l0, some (vr x), l2, l3] (vr x :: st) M Q := w1 mC_0 d0_875 rfl rfl
theorem d0_876 : decode cL_law 876 = .ok (.aload_n 0, 1) := by decide +kernel
theorem k0_876 {d x : Nat} {l1 l2 l3 : Option PV} {st : List PV} {M : Mem} {Q : Option PV → Mem → Prop} : WP d 0 876 [some (vr x), l1, l2, l3] (st) M Q = WP d 0 877 [some (vr x), l1, l2, l3] (vr x :: st) M Q := w1 mC_0 d0_876 rfl rfl
theorem d0_877 : decode cL_law 877 = .ok (.iload_n 3, 1) := by decide +kernel
theorem k0_877 {d : Nat} {x : Int32} {l0 l1 l2 : Option PV} {st : List PV} {M : Mem} {Q : Option PV → Mem → Prop} : WP d 0 877 [l0, l1, l2, some (vi x)] (st) M Q = WP d 0 878 [l0, l1, l2, some (vi x)] (vi x :: st) M Q := w1 mC_0 d0_877 rfl rfl
theorem d0_878 : decode cL_law 878 = .ok (.iconst 1, 1) := by decide +kernel
theorem k0_878 {d : Nat} {l0 l1 l2 l3 : Option PV} {st : List PV} {M : Mem} {Q : Option PV → Mem → Prop} : WP d 0 878 [l0, l1, l2, l3] (st) M Q = WP d 0 879 [l0, l1, l2, l3] (vi 1 :: st) M Q := w_iconst mC_0 d0_878 (by decide)
theorem d0_879 : decode cL_law 879 = .ok (.iadd, 1) := by decide +kernel
theorem k0_879 {d : Nat} {l0 l1 l2 l3 : Option PV} {st : List PV} {M : Mem} {Q : Option PV → Mem → Prop} {x y : Int32} : WP d 0 879 [l0, l1, l2, l3] (vi y :: vi x :: st) M Q = WP d 0 880 [l0, l1, l2, l3] (vi (x + y) :: st) M Q := w1 mC_0 d0_879 rfl rfl
theorem d0_880 : decode cL_law 880 = .ok (.iaload, 1) := by decide +kernel
theorem k0_880 {d : Nat} {l0 l1 l2 l3 : Option PV} {st : List PV} {M : Mem} {Q : Option PV → Mem → Prop} {r : Nat} {j : Int32} (hk : mK M r = 13) (hj : inb j (mN M r)) : WP d 0 880 [l0, l1, l2, l3] (vi j :: vr r :: st) M Q = WP d 0 881 [l0, l1, l2, l3] (vi (mI M r (ix j)) :: st) M Q := w_sld mC_0 d0_880 hk hj
theorem d0_881 : decode cL_law 881 = .ok (.aload_n 0, 1) := by decide +kernel
theorem k0_881 {d x : Nat} {l1 l2 l3 : Option PV} {st : List PV} {M : Mem} {Q : Option PV → Mem → Prop} : WP d 0 881 [some (vr x), l1, l2, l3] (st) M Q = WP d 0 882 [some (vr x), l1, l2, l3] (vr x :: st) M Q := w1 mC_0 d0_881 rfl rfl
theorem d0_882 : decode cL_law 882 = .ok (.iload_n 3, 1) := by decide +kernel
theorem k0_882 {d : Nat} {x : Int32} {l0 l1 l2 : Option PV} {st : List PV} {M : Mem} {Q : Option PV → Mem → Prop} : WP d 0 882 [l0, l1, l2, some (vi x)] (st) M Q = WP d 0 883 [l0, l1, l2, some (vi x)] (vi x :: st) M Q := w1 mC_0 d0_882 rfl rfl
theorem d0_883 : decode cL_law 883 = .ok (.iconst 2, 1) := by decide +kernel
theorem k0_883 {d : Nat} {l0 l1 l2 l3 : Option PV} {st : List PV} {M : Mem} {Q : Option PV → Mem → Prop} : WP d 0 883 [l0, l1, l2, l3] (st) M Q = WP d 0 884 [l0, l1, l2, l3] (vi 2 :: st) M Q := w_iconst mC_0 d0_883 (by decide)
theorem d0_884 : decode cL_law 884 = .ok (.iadd, 1) := by decide +kernel
theorem k0_884 {d : Nat} {l0 l1 l2 l3 : Option PV} {st : List PV} {M : Mem} {Q : Option PV → Mem → Prop} {x y : Int32} : WP d 0 884 [l0, l1, l2, l3] (vi y :: vi x :: st) M Q = WP d 0 885 [l0, l1, l2, l3] (vi (x + y) :: st) M Q := w1 mC_0 d0_884 rfl rfl
theorem d0_885 : decode cL_law 885 = .ok (.iaload, 1) := by decide +kernel
theorem k0_885 {d : Nat} {l0 l1 l2 l3 : Option PV} {st : List PV} {M : Mem} {Q : Option PV → Mem → Prop} {r : Nat} {j : Int32} (hk : mK M r = 13) (hj : inb j (mN M r)) : WP d 0 885 [l0, l1, l2, l3] (vi j :: vr r :: st) M Q = WP d 0 886 [l0, l1, l2, l3] (vi (mI M r (ix j)) :: st) M Q := w_sld mC_0 d0_885 hk hj
theorem d0_886 : decode cL_law 886 = .ok (.aload_n 0, 1) := by decide +kernel
theorem k0_886 {d x : Nat} {l1 l2 l3 : Option PV} {st : List PV} {M : Mem} {Q : Option PV → Mem → Prop} : WP d 0 886 [some (vr x), l1, l2, l3] (st) M Q = WP d 0 887 [some (vr x), l1, l2, l3] (vr x :: st) M Q := w1 mC_0 d0_886 rfl rfl
theorem d0_887 : decode cL_law 887 = .ok (.iload_n 3, 1) := by decide +kernel
theorem k0_887 {d : Nat} {x : Int32} {l0 l1 l2 : Option PV} {st : List PV} {M : Mem} {Q : Option PV → Mem → Prop} : WP d 0 887 [l0, l1, l2, some (vi x)] (st) M Q = WP d 0 888 [l0, l1, l2, some (vi x)] (vi x :: st) M Q := w1 mC_0 d0_887 rfl rfl
theorem d0_888 : decode cL_law 888 = .ok (.iconst 3, 1) := by decide +kernel
theorem k0_888 {d : Nat} {l0 l1 l2 l3 : Option PV} {st : List PV} {M : Mem} {Q : Option PV → Mem → Prop} : WP d 0 888 [l0, l1, l2, l3] (st) M Q = WP d 0 889 [l0, l1, l2, l3] (vi 3 :: st) M Q := w_iconst mC_0 d0_888 (by decide)
theorem d0_889 : decode cL_law 889 = .ok (.iadd, 1) := by decide +kernel
theorem k0_889 {d : Nat} {l0 l1 l2 l3 : Option PV} {st : List PV} {M : Mem} {Q : Option PV → Mem → Prop} {x y : Int32} : WP d 0 889 [l0, l1, l2, l3] (vi y :: vi x :: st) M Q = WP d 0 890 [l0, l1, l2, l3] (vi (x + y) :: st) M Q := w1 mC_0 d0_889 rfl rfl
theorem d0_890 : decode cL_law 890 = .ok (.iaload, 1) := by decide +kernel
theorem k0_890 {d : Nat} {l0 l1 l2 l3 : Option PV} {st : List PV} {M : Mem} {Q : Option PV → Mem → Prop} {r : Nat} {j : Int32} (hk : mK M r = 13) (hj : inb j (mN M r)) : WP d 0 890 [l0, l1, l2, l3] (vi j :: vr r :: st) M Q = WP d 0 891 [l0, l1, l2, l3] (vi (mI M r (ix j)) :: st) M Q := w_sld mC_0 d0_890 hk hj
theorem d0_891 : decode cL_law 891 = .ok (.invokevirtual 101, 3) := by decide +kernel
theorem k0_891 {d : Nat} {l0 l1 l2 l3 : Option PV} {st : List PV} {M : Mem} {Q : Option PV → Mem → Prop} {a0 a1 a2 : Int32} {r : Nat} (hl : szL st ≤ 8) (hk : mK M r = 11) : WP (d + 1) 0 891 [l0, l1, l2, l3] (vi a2 :: vi a1 :: vi a0 :: vr r :: st) M Q = WP d 113 0 [some (vr r), some (vi a0), some (vi a1), some (vi a2), none, none, none] [] M (fun v M' => WP (d + 1) 0 894 [l0, l1, l2, l3] (psh v st) M' Q) := w_callV mC_0 d0_891 (ci := 11) rfl rfl rfl (Nat.le_of_ble_eq_true rfl) (by decide) rfl hl hk
theorem d0_894 : decode cL_law 894 = .ok (.aload_n 2, 1) := by decide +kernel
theorem k0_894 {d x : Nat} {l0 l1 l3 : Option PV} {st : List PV} {M : Mem} {Q : Option PV → Mem → Prop} : WP d 0 894 [l0, l1, some (vr x), l3] (st) M Q = WP d 0 895 [l0, l1, some (vr x), l3] (vr x :: st) M Q := w1 mC_0 d0_894 rfl rfl
theorem d0_895 : decode cL_law 895 = .ok (.aload_n 0, 1) := by decide +kernel
theorem k0_895 {d x : Nat} {l1 l2 l3 : Option PV} {st : List PV} {M : Mem} {Q : Option PV → Mem → Prop} : WP d 0 895 [some (vr x), l1, l2, l3] (st) M Q = WP d 0 896 [some (vr x), l1, l2, l3] (vr x :: st) M Q := w1 mC_0 d0_895 rfl rfl
theorem d0_896 : decode cL_law 896 = .ok (.iload_n 3, 1) := by decide +kernel
theorem k0_896 {d : Nat} {x : Int32} {l0 l1 l2 : Option PV} {st : List PV} {M : Mem} {Q : Option PV → Mem → Prop} : WP d 0 896 [l0, l1, l2, some (vi x)] (st) M Q = WP d 0 897 [l0, l1, l2, some (vi x)] (vi x :: st) M Q := w1 mC_0 d0_896 rfl rfl
theorem d0_897 : decode cL_law 897 = .ok (.iconst 1, 1) := by decide +kernel
theorem k0_897 {d : Nat} {l0 l1 l2 l3 : Option PV} {st : List PV} {M : Mem} {Q : Option PV → Mem → Prop} : WP d 0 897 [l0, l1, l2, l3] (st) M Q = WP d 0 898 [l0, l1, l2, l3] (vi 1 :: st) M Q := w_iconst mC_0 d0_897 (by decide)
theorem d0_898 : decode cL_law 898 = .ok (.iadd, 1) := by decide +kernel
theorem k0_898 {d : Nat} {l0 l1 l2 l3 : Option PV} {st : List PV} {M : Mem} {Q : Option PV → Mem → Prop} {x y : Int32} : WP d 0 898 [l0, l1, l2, l3] (vi y :: vi x :: st) M Q = WP d 0 899 [l0, l1, l2, l3] (vi (x + y) :: st) M Q := w1 mC_0 d0_898 rfl rfl
theorem d0_899 : decode cL_law 899 = .ok (.iaload, 1) := by decide +kernel
theorem k0_899 {d : Nat} {l0 l1 l2 l3 : Option PV} {st : List PV} {M : Mem} {Q : Option PV → Mem → Prop} {r : Nat} {j : Int32} (hk : mK M r = 13) (hj : inb j (mN M r)) : WP d 0 899 [l0, l1, l2, l3] (vi j :: vr r :: st) M Q = WP d 0 900 [l0, l1, l2, l3] (vi (mI M r (ix j)) :: st) M Q := w_sld mC_0 d0_899 hk hj
theorem d0_900 : decode cL_law 900 = .ok (.aload_n 0, 1) := by decide +kernel
theorem k0_900 {d x : Nat} {l1 l2 l3 : Option PV} {st : List PV} {M : Mem} {Q : Option PV → Mem → Prop} : WP d 0 900 [some (vr x), l1, l2, l3] (st) M Q = WP d 0 901 [some (vr x), l1, l2, l3] (vr x :: st) M Q := w1 mC_0 d0_900 rfl rfl
theorem d0_901 : decode cL_law 901 = .ok (.iload_n 3, 1) := by decide +kernel
theorem k0_901 {d : Nat} {x : Int32} {l0 l1 l2 : Option PV} {st : List PV} {M : Mem} {Q : Option PV → Mem → Prop} : WP d 0 901 [l0, l1, l2, some (vi x)] (st) M Q = WP d 0 902 [l0, l1, l2, some (vi x)] (vi x :: st) M Q := w1 mC_0 d0_901 rfl rfl
theorem d0_902 : decode cL_law 902 = .ok (.iconst 2, 1) := by decide +kernel
theorem k0_902 {d : Nat} {l0 l1 l2 l3 : Option PV} {st : List PV} {M : Mem} {Q : Option PV → Mem → Prop} : WP d 0 902 [l0, l1, l2, l3] (st) M Q = WP d 0 903 [l0, l1, l2, l3] (vi 2 :: st) M Q := w_iconst mC_0 d0_902 (by decide)
theorem d0_903 : decode cL_law 903 = .ok (.iadd, 1) := by decide +kernel
theorem k0_903 {d : Nat} {l0 l1 l2 l3 : Option PV} {st : List PV} {M : Mem} {Q : Option PV → Mem → Prop} {x y : Int32} : WP d 0 903 [l0, l1, l2, l3] (vi y :: vi x :: st) M Q = WP d 0 904 [l0, l1, l2, l3] (vi (x + y) :: st) M Q := w1 mC_0 d0_903 rfl rfl
theorem d0_904 : decode cL_law 904 = .ok (.iaload, 1) := by decide +kernel
theorem k0_904 {d : Nat} {l0 l1 l2 l3 : Option PV} {st : List PV} {M : Mem} {Q : Option PV → Mem → Prop} {r : Nat} {j : Int32} (hk : mK M r = 13) (hj : inb j (mN M r)) : WP d 0 904 [l0, l1, l2, l3] (vi j :: vr r :: st) M Q = WP d 0 905 [l0, l1, l2, l3] (vi (mI M r (ix j)) :: st) M Q := w_sld mC_0 d0_904 hk hj
theorem d0_905 : decode cL_law 905 = .ok (.aload_n 0, 1) := by decide +kernel
theorem k0_905 {d x : Nat} {l1 l2 l3 : Option PV} {st : List PV} {M : Mem} {Q : Option PV → Mem → Prop} : WP d 0 905 [some (vr x), l1, l2, l3] (st) M Q = WP d 0 906 [some (vr x), l1, l2, l3] (vr x :: st) M Q := w1 mC_0 d0_905 rfl rfl
theorem d0_906 : decode cL_law 906 = .ok (.iload_n 3, 1) := by decide +kernel
theorem k0_906 {d : Nat} {x : Int32} {l0 l1 l2 : Option PV} {st : List PV} {M : Mem} {Q : Option PV → Mem → Prop} : WP d 0 906 [l0, l1, l2, some (vi x)] (st) M Q = WP d 0 907 [l0, l1, l2, some (vi x)] (vi x :: st) M Q := w1 mC_0 d0_906 rfl rfl
theorem d0_907 : decode cL_law 907 = .ok (.iconst 3, 1) := by decide +kernel
theorem k0_907 {d : Nat} {l0 l1 l2 l3 : Option PV} {st : List PV} {M : Mem} {Q : Option PV → Mem → Prop} : WP d 0 907 [l0, l1, l2, l3] (st) M Q = WP d 0 908 [l0, l1, l2, l3] (vi 3 :: st) M Q := w_iconst mC_0 d0_907 (by decide)
theorem d0_908 : decode cL_law 908 = .ok (.iadd, 1) := by decide +kernel
theorem k0_908 {d : Nat} {l0 l1 l2 l3 : Option PV} {st : List PV} {M : Mem} {Q : Option PV → Mem → Prop} {x y : Int32} : WP d 0 908 [l0, l1, l2, l3] (vi y :: vi x :: st) M Q = WP d 0 909 [l0, l1, l2, l3] (vi (x + y) :: st) M Q := w1 mC_0 d0_908 rfl rfl
theorem d0_909 : decode cL_law 909 = .ok (.iaload, 1) := by decide +kernel
theorem k0_909 {d : Nat} {l0 l1 l2 l3 : Option PV} {st : List PV} {M : Mem} {Q : Option PV → Mem → Prop} {r : Nat} {j : Int32} (hk : mK M r = 13) (hj : inb j (mN M r)) : WP d 0 909 [l0, l1, l2, l3] (vi j :: vr r :: st) M Q = WP d 0 910 [l0, l1, l2, l3] (vi (mI M r (ix j)) :: st) M Q := w_sld mC_0 d0_909 hk hj
theorem d0_910 : decode cL_law 910 = .ok (.invokevirtual 104, 3) := by decide +kernel
theorem k0_910 {d : Nat} {l0 l1 l2 l3 : Option PV} {st : List PV} {M : Mem} {Q : Option PV → Mem → Prop} {a0 a1 a2 : Int32} {r : Nat} (hl : szL st ≤ 8) (hk : mK M r = 12) : WP (d + 1) 0 910 [l0, l1, l2, l3] (vi a2 :: vi a1 :: vi a0 :: vr r :: st) M Q = WP d 220 0 [some (vr r), some (vi a0), some (vi a1), some (vi a2), none, none] [] M (fun v M' => WP (d + 1) 0 913 [l0, l1, l2, l3] (psh v st) M' Q) := w_callV mC_0 d0_910 (ci := 12) rfl rfl rfl (Nat.le_of_ble_eq_true rfl) (by decide) rfl hl hk
theorem d0_913 : decode cL_law 913 = .ok (.if_icmp .eq 583, 3) := by decide +kernel
theorem k0_913 {d : Nat} {l0 l1 l2 l3 : Option PV} {st : List PV} {M : Mem} {Q : Option PV → Mem → Prop} {x y : Int32} : WP d 0 913 [l0, l1, l2, l3] (vi y :: vi x :: st) M Q = (if x = y then WP d 0 1496 [l0, l1, l2, l3] (st) M Q else WP d 0 916 [l0, l1, l2, l3] (st) M Q) := w_ic_eq mC_0 d0_913 (by decide)
theorem d0_916 : decode cL_law 916 = .ok (.iconst 0, 1) := by decide +kernel
theorem k0_916 {d : Nat} {l0 l1 l2 l3 : Option PV} {st : List PV} {M : Mem} {Q : Option PV → Mem → Prop} : WP d 0 916 [l0, l1, l2, l3] (st) M Q = WP d 0 917 [l0, l1, l2, l3] (vi 0 :: st) M Q := w_iconst mC_0 d0_916 (by decide)
theorem d0_917 : decode cL_law 917 = .ok (.ireturn, 1) := by decide +kernel
theorem k0_917 {d : Nat} {l0 l1 l2 l3 : Option PV} {M : Mem} {Q : Option PV → Mem → Prop} {x : Int32} (hx : x = 0 ∨ x = 1) : WP d 0 917 [l0, l1, l2, l3] ([vi x]) M Q = Q (some (vi x)) M := w_zret mC_0 d0_917 rfl hx
theorem d0_918 : decode cL_law 918 = .ok (.aload_n 1, 1) := by decide +kernel
theorem k0_918 {d x : Nat} {l0 l2 l3 : Option PV} {st : List PV} {M : Mem} {Q : Option PV → Mem → Prop} : WP d 0 918 [l0, some (vr x), l2, l3] (st) M Q = WP d 0 919 [l0, some (vr x), l2, l3] (vr x :: st) M Q := w1 mC_0 d0_918 rfl rfl
theorem d0_919 : decode cL_law 919 = .ok (.aload_n 0, 1) := by decide +kernel
theorem k0_919 {d x : Nat} {l1 l2 l3 : Option PV} {st : List PV} {M : Mem} {Q : Option PV → Mem → Prop} : WP d 0 919 [some (vr x), l1, l2, l3] (st) M Q = WP d 0 920 [some (vr x), l1, l2, l3] (vr x :: st) M Q := w1 mC_0 d0_919 rfl rfl
theorem d0_920 : decode cL_law 920 = .ok (.iload_n 3, 1) := by decide +kernel
theorem k0_920 {d : Nat} {x : Int32} {l0 l1 l2 : Option PV} {st : List PV} {M : Mem} {Q : Option PV → Mem → Prop} : WP d 0 920 [l0, l1, l2, some (vi x)] (st) M Q = WP d 0 921 [l0, l1, l2, some (vi x)] (vi x :: st) M Q := w1 mC_0 d0_920 rfl rfl
theorem d0_921 : decode cL_law 921 = .ok (.iconst 1, 1) := by decide +kernel
theorem k0_921 {d : Nat} {l0 l1 l2 l3 : Option PV} {st : List PV} {M : Mem} {Q : Option PV → Mem → Prop} : WP d 0 921 [l0, l1, l2, l3] (st) M Q = WP d 0 922 [l0, l1, l2, l3] (vi 1 :: st) M Q := w_iconst mC_0 d0_921 (by decide)
theorem d0_922 : decode cL_law 922 = .ok (.iadd, 1) := by decide +kernel
theorem k0_922 {d : Nat} {l0 l1 l2 l3 : Option PV} {st : List PV} {M : Mem} {Q : Option PV → Mem → Prop} {x y : Int32} : WP d 0 922 [l0, l1, l2, l3] (vi y :: vi x :: st) M Q = WP d 0 923 [l0, l1, l2, l3] (vi (x + y) :: st) M Q := w1 mC_0 d0_922 rfl rfl
theorem d0_923 : decode cL_law 923 = .ok (.iaload, 1) := by decide +kernel
theorem k0_923 {d : Nat} {l0 l1 l2 l3 : Option PV} {st : List PV} {M : Mem} {Q : Option PV → Mem → Prop} {r : Nat} {j : Int32} (hk : mK M r = 13) (hj : inb j (mN M r)) : WP d 0 923 [l0, l1, l2, l3] (vi j :: vr r :: st) M Q = WP d 0 924 [l0, l1, l2, l3] (vi (mI M r (ix j)) :: st) M Q := w_sld mC_0 d0_923 hk hj
theorem d0_924 : decode cL_law 924 = .ok (.aload_n 0, 1) := by decide +kernel
theorem k0_924 {d x : Nat} {l1 l2 l3 : Option PV} {st : List PV} {M : Mem} {Q : Option PV → Mem → Prop} : WP d 0 924 [some (vr x), l1, l2, l3] (st) M Q = WP d 0 925 [some (vr x), l1, l2, l3] (vr x :: st) M Q := w1 mC_0 d0_924 rfl rfl
theorem d0_925 : decode cL_law 925 = .ok (.iload_n 3, 1) := by decide +kernel
theorem k0_925 {d : Nat} {x : Int32} {l0 l1 l2 : Option PV} {st : List PV} {M : Mem} {Q : Option PV → Mem → Prop} : WP d 0 925 [l0, l1, l2, some (vi x)] (st) M Q = WP d 0 926 [l0, l1, l2, some (vi x)] (vi x :: st) M Q := w1 mC_0 d0_925 rfl rfl
theorem d0_926 : decode cL_law 926 = .ok (.iconst 2, 1) := by decide +kernel
theorem k0_926 {d : Nat} {l0 l1 l2 l3 : Option PV} {st : List PV} {M : Mem} {Q : Option PV → Mem → Prop} : WP d 0 926 [l0, l1, l2, l3] (st) M Q = WP d 0 927 [l0, l1, l2, l3] (vi 2 :: st) M Q := w_iconst mC_0 d0_926 (by decide)
theorem d0_927 : decode cL_law 927 = .ok (.iadd, 1) := by decide +kernel
theorem k0_927 {d : Nat} {l0 l1 l2 l3 : Option PV} {st : List PV} {M : Mem} {Q : Option PV → Mem → Prop} {x y : Int32} : WP d 0 927 [l0, l1, l2, l3] (vi y :: vi x :: st) M Q = WP d 0 928 [l0, l1, l2, l3] (vi (x + y) :: st) M Q := w1 mC_0 d0_927 rfl rfl
theorem d0_928 : decode cL_law 928 = .ok (.iaload, 1) := by decide +kernel
theorem k0_928 {d : Nat} {l0 l1 l2 l3 : Option PV} {st : List PV} {M : Mem} {Q : Option PV → Mem → Prop} {r : Nat} {j : Int32} (hk : mK M r = 13) (hj : inb j (mN M r)) : WP d 0 928 [l0, l1, l2, l3] (vi j :: vr r :: st) M Q = WP d 0 929 [l0, l1, l2, l3] (vi (mI M r (ix j)) :: st) M Q := w_sld mC_0 d0_928 hk hj
theorem d0_929 : decode cL_law 929 = .ok (.aload_n 0, 1) := by decide +kernel
theorem k0_929 {d x : Nat} {l1 l2 l3 : Option PV} {st : List PV} {M : Mem} {Q : Option PV → Mem → Prop} : WP d 0 929 [some (vr x), l1, l2, l3] (st) M Q = WP d 0 930 [some (vr x), l1, l2, l3] (vr x :: st) M Q := w1 mC_0 d0_929 rfl rfl
theorem d0_930 : decode cL_law 930 = .ok (.iload_n 3, 1) := by decide +kernel
theorem k0_930 {d : Nat} {x : Int32} {l0 l1 l2 : Option PV} {st : List PV} {M : Mem} {Q : Option PV → Mem → Prop} : WP d 0 930 [l0, l1, l2, some (vi x)] (st) M Q = WP d 0 931 [l0, l1, l2, some (vi x)] (vi x :: st) M Q := w1 mC_0 d0_930 rfl rfl
theorem d0_931 : decode cL_law 931 = .ok (.iconst 3, 1) := by decide +kernel
theorem k0_931 {d : Nat} {l0 l1 l2 l3 : Option PV} {st : List PV} {M : Mem} {Q : Option PV → Mem → Prop} : WP d 0 931 [l0, l1, l2, l3] (st) M Q = WP d 0 932 [l0, l1, l2, l3] (vi 3 :: st) M Q := w_iconst mC_0 d0_931 (by decide)
theorem d0_932 : decode cL_law 932 = .ok (.iadd, 1) := by decide +kernel
theorem k0_932 {d : Nat} {l0 l1 l2 l3 : Option PV} {st : List PV} {M : Mem} {Q : Option PV → Mem → Prop} {x y : Int32} : WP d 0 932 [l0, l1, l2, l3] (vi y :: vi x :: st) M Q = WP d 0 933 [l0, l1, l2, l3] (vi (x + y) :: st) M Q := w1 mC_0 d0_932 rfl rfl
theorem d0_933 : decode cL_law 933 = .ok (.iaload, 1) := by decide +kernel
theorem k0_933 {d : Nat} {l0 l1 l2 l3 : Option PV} {st : List PV} {M : Mem} {Q : Option PV → Mem → Prop} {r : Nat} {j : Int32} (hk : mK M r = 13) (hj : inb j (mN M r)) : WP d 0 933 [l0, l1, l2, l3] (vi j :: vr r :: st) M Q = WP d 0 934 [l0, l1, l2, l3] (vi (mI M r (ix j)) :: st) M Q := w_sld mC_0 d0_933 hk hj
theorem d0_934 : decode cL_law 934 = .ok (.invokevirtual 105, 3) := by decide +kernel
theorem k0_934 {d : Nat} {l0 l1 l2 l3 : Option PV} {st : List PV} {M : Mem} {Q : Option PV → Mem → Prop} {a0 a1 a2 : Int32} {r : Nat} (hl : szL st ≤ 8) (hk : mK M r = 11) : WP (d + 1) 0 934 [l0, l1, l2, l3] (vi a2 :: vi a1 :: vi a0 :: vr r :: st) M Q = WP d 117 0 [some (vr r), some (vi a0), some (vi a1), some (vi a2), none, none, none, none, none, none] [] M (fun v M' => WP (d + 1) 0 937 [l0, l1, l2, l3] (psh v st) M' Q) := w_callV mC_0 d0_934 (ci := 11) rfl rfl rfl (Nat.le_of_ble_eq_true rfl) (by decide) rfl hl hk
theorem d0_937 : decode cL_law 937 = .ok (.aload_n 2, 1) := by decide +kernel
theorem k0_937 {d x : Nat} {l0 l1 l3 : Option PV} {st : List PV} {M : Mem} {Q : Option PV → Mem → Prop} : WP d 0 937 [l0, l1, some (vr x), l3] (st) M Q = WP d 0 938 [l0, l1, some (vr x), l3] (vr x :: st) M Q := w1 mC_0 d0_937 rfl rfl
theorem d0_938 : decode cL_law 938 = .ok (.aload_n 0, 1) := by decide +kernel
theorem k0_938 {d x : Nat} {l1 l2 l3 : Option PV} {st : List PV} {M : Mem} {Q : Option PV → Mem → Prop} : WP d 0 938 [some (vr x), l1, l2, l3] (st) M Q = WP d 0 939 [some (vr x), l1, l2, l3] (vr x :: st) M Q := w1 mC_0 d0_938 rfl rfl
theorem d0_939 : decode cL_law 939 = .ok (.iload_n 3, 1) := by decide +kernel
theorem k0_939 {d : Nat} {x : Int32} {l0 l1 l2 : Option PV} {st : List PV} {M : Mem} {Q : Option PV → Mem → Prop} : WP d 0 939 [l0, l1, l2, some (vi x)] (st) M Q = WP d 0 940 [l0, l1, l2, some (vi x)] (vi x :: st) M Q := w1 mC_0 d0_939 rfl rfl
theorem d0_940 : decode cL_law 940 = .ok (.iconst 1, 1) := by decide +kernel
theorem k0_940 {d : Nat} {l0 l1 l2 l3 : Option PV} {st : List PV} {M : Mem} {Q : Option PV → Mem → Prop} : WP d 0 940 [l0, l1, l2, l3] (st) M Q = WP d 0 941 [l0, l1, l2, l3] (vi 1 :: st) M Q := w_iconst mC_0 d0_940 (by decide)
theorem d0_941 : decode cL_law 941 = .ok (.iadd, 1) := by decide +kernel
theorem k0_941 {d : Nat} {l0 l1 l2 l3 : Option PV} {st : List PV} {M : Mem} {Q : Option PV → Mem → Prop} {x y : Int32} : WP d 0 941 [l0, l1, l2, l3] (vi y :: vi x :: st) M Q = WP d 0 942 [l0, l1, l2, l3] (vi (x + y) :: st) M Q := w1 mC_0 d0_941 rfl rfl
theorem d0_942 : decode cL_law 942 = .ok (.iaload, 1) := by decide +kernel
theorem k0_942 {d : Nat} {l0 l1 l2 l3 : Option PV} {st : List PV} {M : Mem} {Q : Option PV → Mem → Prop} {r : Nat} {j : Int32} (hk : mK M r = 13) (hj : inb j (mN M r)) : WP d 0 942 [l0, l1, l2, l3] (vi j :: vr r :: st) M Q = WP d 0 943 [l0, l1, l2, l3] (vi (mI M r (ix j)) :: st) M Q := w_sld mC_0 d0_942 hk hj
theorem d0_943 : decode cL_law 943 = .ok (.aload_n 0, 1) := by decide +kernel
theorem k0_943 {d x : Nat} {l1 l2 l3 : Option PV} {st : List PV} {M : Mem} {Q : Option PV → Mem → Prop} : WP d 0 943 [some (vr x), l1, l2, l3] (st) M Q = WP d 0 944 [some (vr x), l1, l2, l3] (vr x :: st) M Q := w1 mC_0 d0_943 rfl rfl
theorem d0_944 : decode cL_law 944 = .ok (.iload_n 3, 1) := by decide +kernel
theorem k0_944 {d : Nat} {x : Int32} {l0 l1 l2 : Option PV} {st : List PV} {M : Mem} {Q : Option PV → Mem → Prop} : WP d 0 944 [l0, l1, l2, some (vi x)] (st) M Q = WP d 0 945 [l0, l1, l2, some (vi x)] (vi x :: st) M Q := w1 mC_0 d0_944 rfl rfl
theorem d0_945 : decode cL_law 945 = .ok (.iconst 2, 1) := by decide +kernel
theorem k0_945 {d : Nat} {l0 l1 l2 l3 : Option PV} {st : List PV} {M : Mem} {Q : Option PV → Mem → Prop} : WP d 0 945 [l0, l1, l2, l3] (st) M Q = WP d 0 946 [l0, l1, l2, l3] (vi 2 :: st) M Q := w_iconst mC_0 d0_945 (by decide)
theorem d0_946 : decode cL_law 946 = .ok (.iadd, 1) := by decide +kernel
theorem k0_946 {d : Nat} {l0 l1 l2 l3 : Option PV} {st : List PV} {M : Mem} {Q : Option PV → Mem → Prop} {x y : Int32} : WP d 0 946 [l0, l1, l2, l3] (vi y :: vi x :: st) M Q = WP d 0 947 [l0, l1, l2, l3] (vi (x + y) :: st) M Q := w1 mC_0 d0_946 rfl rfl
theorem d0_947 : decode cL_law 947 = .ok (.iaload, 1) := by decide +kernel
theorem k0_947 {d : Nat} {l0 l1 l2 l3 : Option PV} {st : List PV} {M : Mem} {Q : Option PV → Mem → Prop} {r : Nat} {j : Int32} (hk : mK M r = 13) (hj : inb j (mN M r)) : WP d 0 947 [l0, l1, l2, l3] (vi j :: vr r :: st) M Q = WP d 0 948 [l0, l1, l2, l3] (vi (mI M r (ix j)) :: st) M Q := w_sld mC_0 d0_947 hk hj
theorem d0_948 : decode cL_law 948 = .ok (.aload_n 0, 1) := by decide +kernel
theorem k0_948 {d x : Nat} {l1 l2 l3 : Option PV} {st : List PV} {M : Mem} {Q : Option PV → Mem → Prop} : WP d 0 948 [some (vr x), l1, l2, l3] (st) M Q = WP d 0 949 [some (vr x), l1, l2, l3] (vr x :: st) M Q := w1 mC_0 d0_948 rfl rfl
theorem d0_949 : decode cL_law 949 = .ok (.iload_n 3, 1) := by decide +kernel
theorem k0_949 {d : Nat} {x : Int32} {l0 l1 l2 : Option PV} {st : List PV} {M : Mem} {Q : Option PV → Mem → Prop} : WP d 0 949 [l0, l1, l2, some (vi x)] (st) M Q = WP d 0 950 [l0, l1, l2, some (vi x)] (vi x :: st) M Q := w1 mC_0 d0_949 rfl rfl
theorem d0_950 : decode cL_law 950 = .ok (.iconst 3, 1) := by decide +kernel
theorem k0_950 {d : Nat} {l0 l1 l2 l3 : Option PV} {st : List PV} {M : Mem} {Q : Option PV → Mem → Prop} : WP d 0 950 [l0, l1, l2, l3] (st) M Q = WP d 0 951 [l0, l1, l2, l3] (vi 3 :: st) M Q := w_iconst mC_0 d0_950 (by decide)
theorem d0_951 : decode cL_law 951 = .ok (.iadd, 1) := by decide +kernel
theorem k0_951 {d : Nat} {l0 l1 l2 l3 : Option PV} {st : List PV} {M : Mem} {Q : Option PV → Mem → Prop} {x y : Int32} : WP d 0 951 [l0, l1, l2, l3] (vi y :: vi x :: st) M Q = WP d 0 952 [l0, l1, l2, l3] (vi (x + y) :: st) M Q := w1 mC_0 d0_951 rfl rfl
theorem d0_952 : decode cL_law 952 = .ok (.iaload, 1) := by decide +kernel
theorem k0_952 {d : Nat} {l0 l1 l2 l3 : Option PV} {st : List PV} {M : Mem} {Q : Option PV → Mem → Prop} {r : Nat} {j : Int32} (hk : mK M r = 13) (hj : inb j (mN M r)) : WP d 0 952 [l0, l1, l2, l3] (vi j :: vr r :: st) M Q = WP d 0 953 [l0, l1, l2, l3] (vi (mI M r (ix j)) :: st) M Q := w_sld mC_0 d0_952 hk hj
theorem d0_953 : decode cL_law 953 = .ok (.invokevirtual 108, 3) := by decide +kernel
theorem k0_953 {d : Nat} {l0 l1 l2 l3 : Option PV} {st : List PV} {M : Mem} {Q : Option PV → Mem → Prop} {a0 a1 a2 : Int32} {r : Nat} (hl : szL st ≤ 8) (hk : mK M r = 12) : WP (d + 1) 0 953 [l0, l1, l2, l3] (vi a2 :: vi a1 :: vi a0 :: vr r :: st) M Q = WP d 221 0 [some (vr r), some (vi a0), some (vi a1), some (vi a2), none, none, none, none] [] M (fun v M' => WP (d + 1) 0 956 [l0, l1, l2, l3] (psh v st) M' Q) := w_callV mC_0 d0_953 (ci := 12) rfl rfl rfl (Nat.le_of_ble_eq_true rfl) (by decide) rfl hl hk
theorem d0_956 : decode cL_law 956 = .ok (.if_icmp .eq 540, 3) := by decide +kernel
theorem k0_956 {d : Nat} {l0 l1 l2 l3 : Option PV} {st : List PV} {M : Mem} {Q : Option PV → Mem → Prop} {x y : Int32} : WP d 0 956 [l0, l1, l2, l3] (vi y :: vi x :: st) M Q = (if x = y then WP d 0 1496 [l0, l1, l2, l3] (st) M Q else WP d 0 959 [l0, l1, l2, l3] (st) M Q) := w_ic_eq mC_0 d0_956 (by decide)
theorem d0_959 : decode cL_law 959 = .ok (.iconst 0, 1) := by decide +kernel
theorem k0_959 {d : Nat} {l0 l1 l2 l3 : Option PV} {st : List PV} {M : Mem} {Q : Option PV → Mem → Prop} : WP d 0 959 [l0, l1, l2, l3] (st) M Q = WP d 0 960 [l0, l1, l2, l3] (vi 0 :: st) M Q := w_iconst mC_0 d0_959 (by decide)
theorem d0_960 : decode cL_law 960 = .ok (.ireturn, 1) := by decide +kernel
theorem k0_960 {d : Nat} {l0 l1 l2 l3 : Option PV} {M : Mem} {Q : Option PV → Mem → Prop} {x : Int32} (hx : x = 0 ∨ x = 1) : WP d 0 960 [l0, l1, l2, l3] ([vi x]) M Q = Q (some (vi x)) M := w_zret mC_0 d0_960 rfl hx
theorem d0_961 : decode cL_law 961 = .ok (.aload_n 1, 1) := by decide +kernel
theorem k0_961 {d x : Nat} {l0 l2 l3 : Option PV} {st : List PV} {M : Mem} {Q : Option PV → Mem → Prop} : WP d 0 961 [l0, some (vr x), l2, l3] (st) M Q = WP d 0 962 [l0, some (vr x), l2, l3] (vr x :: st) M Q := w1 mC_0 d0_961 rfl rfl
theorem d0_962 : decode cL_law 962 = .ok (.invokevirtual 109, 3) := by decide +kernel
theorem k0_962 {d : Nat} {l0 l1 l2 l3 : Option PV} {st : List PV} {M : Mem} {Q : Option PV → Mem → Prop} {r : Nat} (hl : szL st ≤ 8) (hk : mK M r = 11) : WP (d + 1) 0 962 [l0, l1, l2, l3] (vr r :: st) M Q = WP d 118 0 [some (vr r)] [] M (fun v M' => WP (d + 1) 0 965 [l0, l1, l2, l3] (psh v st) M' Q) := w_callV mC_0 d0_962 (ci := 11) rfl rfl rfl (Nat.le_of_ble_eq_true rfl) (by decide) rfl hl hk
theorem d0_965 : decode cL_law 965 = .ok (.aload_n 2, 1) := by decide +kernel
theorem k0_965 {d x : Nat} {l0 l1 l3 : Option PV} {st : List PV} {M : Mem} {Q : Option PV → Mem → Prop} : WP d 0 965 [l0, l1, some (vr x), l3] (st) M Q = WP d 0 966 [l0, l1, some (vr x), l3] (vr x :: st) M Q := w1 mC_0 d0_965 rfl rfl
theorem d0_966 : decode cL_law 966 = .ok (.invokevirtual 112, 3) := by decide +kernel
theorem k0_966 {d : Nat} {l0 l1 l2 l3 : Option PV} {st : List PV} {M : Mem} {Q : Option PV → Mem → Prop} {r : Nat} (hl : szL st ≤ 8) (hk : mK M r = 12) : WP (d + 1) 0 966 [l0, l1, l2, l3] (vr r :: st) M Q = WP d 222 0 [some (vr r), none] [] M (fun v M' => WP (d + 1) 0 969 [l0, l1, l2, l3] (psh v st) M' Q) := w_callV mC_0 d0_966 (ci := 12) rfl rfl rfl (Nat.le_of_ble_eq_true rfl) (by decide) rfl hl hk
theorem d0_969 : decode cL_law 969 = .ok (.if_icmp .eq 527, 3) := by decide +kernel
theorem k0_969 {d : Nat} {l0 l1 l2 l3 : Option PV} {st : List PV} {M : Mem} {Q : Option PV → Mem → Prop} {x y : Int32} : WP d 0 969 [l0, l1, l2, l3] (vi y :: vi x :: st) M Q = (if x = y then WP d 0 1496 [l0, l1, l2, l3] (st) M Q else WP d 0 972 [l0, l1, l2, l3] (st) M Q) := w_ic_eq mC_0 d0_969 (by decide)
theorem d0_972 : decode cL_law 972 = .ok (.iconst 0, 1) := by decide +kernel
theorem k0_972 {d : Nat} {l0 l1 l2 l3 : Option PV} {st : List PV} {M : Mem} {Q : Option PV → Mem → Prop} : WP d 0 972 [l0, l1, l2, l3] (st) M Q = WP d 0 973 [l0, l1, l2, l3] (vi 0 :: st) M Q := w_iconst mC_0 d0_972 (by decide)
theorem d0_973 : decode cL_law 973 = .ok (.ireturn, 1) := by decide +kernel
theorem k0_973 {d : Nat} {l0 l1 l2 l3 : Option PV} {M : Mem} {Q : Option PV → Mem → Prop} {x : Int32} (hx : x = 0 ∨ x = 1) : WP d 0 973 [l0, l1, l2, l3] ([vi x]) M Q = Q (some (vi x)) M := w_zret mC_0 d0_973 rfl hx
theorem d0_974 : decode cL_law 974 = .ok (.aload_n 1, 1) := by decide +kernel
theorem k0_974 {d x : Nat} {l0 l2 l3 : Option PV} {st : List PV} {M : Mem} {Q : Option PV → Mem → Prop} : WP d 0 974 [l0, some (vr x), l2, l3] (st) M Q = WP d 0 975 [l0, some (vr x), l2, l3] (vr x :: st) M Q := w1 mC_0 d0_974 rfl rfl
theorem d0_975 : decode cL_law 975 = .ok (.aload_n 0, 1) := by decide +kernel
theorem k0_975 {d x : Nat} {l1 l2 l3 : Option PV} {st : List PV} {M : Mem} {Q : Option PV → Mem → Prop} : WP d 0 975 [some (vr x), l1, l2, l3] (st) M Q = WP d 0 976 [some (vr x), l1, l2, l3] (vr x :: st) M Q := w1 mC_0 d0_975 rfl rfl
theorem d0_976 : decode cL_law 976 = .ok (.iload_n 3, 1) := by decide +kernel
theorem k0_976 {d : Nat} {x : Int32} {l0 l1 l2 : Option PV} {st : List PV} {M : Mem} {Q : Option PV → Mem → Prop} : WP d 0 976 [l0, l1, l2, some (vi x)] (st) M Q = WP d 0 977 [l0, l1, l2, some (vi x)] (vi x :: st) M Q := w1 mC_0 d0_976 rfl rfl
theorem d0_977 : decode cL_law 977 = .ok (.iconst 1, 1) := by decide +kernel
theorem k0_977 {d : Nat} {l0 l1 l2 l3 : Option PV} {st : List PV} {M : Mem} {Q : Option PV → Mem → Prop} : WP d 0 977 [l0, l1, l2, l3] (st) M Q = WP d 0 978 [l0, l1, l2, l3] (vi 1 :: st) M Q := w_iconst mC_0 d0_977 (by decide)
theorem d0_978 : decode cL_law 978 = .ok (.iadd, 1) := by decide +kernel
theorem k0_978 {d : Nat} {l0 l1 l2 l3 : Option PV} {st : List PV} {M : Mem} {Q : Option PV → Mem → Prop} {x y : Int32} : WP d 0 978 [l0, l1, l2, l3] (vi y :: vi x :: st) M Q = WP d 0 979 [l0, l1, l2, l3] (vi (x + y) :: st) M Q := w1 mC_0 d0_978 rfl rfl
theorem d0_979 : decode cL_law 979 = .ok (.iaload, 1) := by decide +kernel
theorem k0_979 {d : Nat} {l0 l1 l2 l3 : Option PV} {st : List PV} {M : Mem} {Q : Option PV → Mem → Prop} {r : Nat} {j : Int32} (hk : mK M r = 13) (hj : inb j (mN M r)) : WP d 0 979 [l0, l1, l2, l3] (vi j :: vr r :: st) M Q = WP d 0 980 [l0, l1, l2, l3] (vi (mI M r (ix j)) :: st) M Q := w_sld mC_0 d0_979 hk hj
theorem d0_980 : decode cL_law 980 = .ok (.aload_n 0, 1) := by decide +kernel
theorem k0_980 {d x : Nat} {l1 l2 l3 : Option PV} {st : List PV} {M : Mem} {Q : Option PV → Mem → Prop} : WP d 0 980 [some (vr x), l1, l2, l3] (st) M Q = WP d 0 981 [some (vr x), l1, l2, l3] (vr x :: st) M Q := w1 mC_0 d0_980 rfl rfl
theorem d0_981 : decode cL_law 981 = .ok (.iload_n 3, 1) := by decide +kernel
theorem k0_981 {d : Nat} {x : Int32} {l0 l1 l2 : Option PV} {st : List PV} {M : Mem} {Q : Option PV → Mem → Prop} : WP d 0 981 [l0, l1, l2, some (vi x)] (st) M Q = WP d 0 982 [l0, l1, l2, some (vi x)] (vi x :: st) M Q := w1 mC_0 d0_981 rfl rfl
theorem d0_982 : decode cL_law 982 = .ok (.iconst 2, 1) := by decide +kernel
theorem k0_982 {d : Nat} {l0 l1 l2 l3 : Option PV} {st : List PV} {M : Mem} {Q : Option PV → Mem → Prop} : WP d 0 982 [l0, l1, l2, l3] (st) M Q = WP d 0 983 [l0, l1, l2, l3] (vi 2 :: st) M Q := w_iconst mC_0 d0_982 (by decide)
theorem d0_983 : decode cL_law 983 = .ok (.iadd, 1) := by decide +kernel
theorem k0_983 {d : Nat} {l0 l1 l2 l3 : Option PV} {st : List PV} {M : Mem} {Q : Option PV → Mem → Prop} {x y : Int32} : WP d 0 983 [l0, l1, l2, l3] (vi y :: vi x :: st) M Q = WP d 0 984 [l0, l1, l2, l3] (vi (x + y) :: st) M Q := w1 mC_0 d0_983 rfl rfl
theorem d0_984 : decode cL_law 984 = .ok (.iaload, 1) := by decide +kernel
theorem k0_984 {d : Nat} {l0 l1 l2 l3 : Option PV} {st : List PV} {M : Mem} {Q : Option PV → Mem → Prop} {r : Nat} {j : Int32} (hk : mK M r = 13) (hj : inb j (mN M r)) : WP d 0 984 [l0, l1, l2, l3] (vi j :: vr r :: st) M Q = WP d 0 985 [l0, l1, l2, l3] (vi (mI M r (ix j)) :: st) M Q := w_sld mC_0 d0_984 hk hj
theorem d0_985 : decode cL_law 985 = .ok (.invokevirtual 113, 3) := by decide +kernel
theorem k0_985 {d : Nat} {l0 l1 l2 l3 : Option PV} {st : List PV} {M : Mem} {Q : Option PV → Mem → Prop} {a0 a1 : Int32} {r : Nat} (hl : szL st ≤ 8) (hk : mK M r = 11) : WP (d + 1) 0 985 [l0, l1, l2, l3] (vi a1 :: vi a0 :: vr r :: st) M Q = WP d 119 0 [some (vr r), some (vi a0), some (vi a1), none, none] [] M (fun v M' => WP (d + 1) 0 988 [l0, l1, l2, l3] (psh v st) M' Q) := w_callV mC_0 d0_985 (ci := 11) rfl rfl rfl (Nat.le_of_ble_eq_true rfl) (by decide) rfl hl hk
theorem d0_988 : decode cL_law 988 = .ok (.aload_n 2, 1) := by decide +kernel
theorem k0_988 {d x : Nat} {l0 l1 l3 : Option PV} {st : List PV} {M : Mem} {Q : Option PV → Mem → Prop} : WP d 0 988 [l0, l1, some (vr x), l3] (st) M Q = WP d 0 989 [l0, l1, some (vr x), l3] (vr x :: st) M Q := w1 mC_0 d0_988 rfl rfl
theorem d0_989 : decode cL_law 989 = .ok (.aload_n 0, 1) := by decide +kernel
theorem k0_989 {d x : Nat} {l1 l2 l3 : Option PV} {st : List PV} {M : Mem} {Q : Option PV → Mem → Prop} : WP d 0 989 [some (vr x), l1, l2, l3] (st) M Q = WP d 0 990 [some (vr x), l1, l2, l3] (vr x :: st) M Q := w1 mC_0 d0_989 rfl rfl
theorem d0_990 : decode cL_law 990 = .ok (.iload_n 3, 1) := by decide +kernel
theorem k0_990 {d : Nat} {x : Int32} {l0 l1 l2 : Option PV} {st : List PV} {M : Mem} {Q : Option PV → Mem → Prop} : WP d 0 990 [l0, l1, l2, some (vi x)] (st) M Q = WP d 0 991 [l0, l1, l2, some (vi x)] (vi x :: st) M Q := w1 mC_0 d0_990 rfl rfl
theorem d0_991 : decode cL_law 991 = .ok (.iconst 1, 1) := by decide +kernel
theorem k0_991 {d : Nat} {l0 l1 l2 l3 : Option PV} {st : List PV} {M : Mem} {Q : Option PV → Mem → Prop} : WP d 0 991 [l0, l1, l2, l3] (st) M Q = WP d 0 992 [l0, l1, l2, l3] (vi 1 :: st) M Q := w_iconst mC_0 d0_991 (by decide)
theorem d0_992 : decode cL_law 992 = .ok (.iadd, 1) := by decide +kernel
theorem k0_992 {d : Nat} {l0 l1 l2 l3 : Option PV} {st : List PV} {M : Mem} {Q : Option PV → Mem → Prop} {x y : Int32} : WP d 0 992 [l0, l1, l2, l3] (vi y :: vi x :: st) M Q = WP d 0 993 [l0, l1, l2, l3] (vi (x + y) :: st) M Q := w1 mC_0 d0_992 rfl rfl
theorem d0_993 : decode cL_law 993 = .ok (.iaload, 1) := by decide +kernel
theorem k0_993 {d : Nat} {l0 l1 l2 l3 : Option PV} {st : List PV} {M : Mem} {Q : Option PV → Mem → Prop} {r : Nat} {j : Int32} (hk : mK M r = 13) (hj : inb j (mN M r)) : WP d 0 993 [l0, l1, l2, l3] (vi j :: vr r :: st) M Q = WP d 0 994 [l0, l1, l2, l3] (vi (mI M r (ix j)) :: st) M Q := w_sld mC_0 d0_993 hk hj
theorem d0_994 : decode cL_law 994 = .ok (.aload_n 0, 1) := by decide +kernel
theorem k0_994 {d x : Nat} {l1 l2 l3 : Option PV} {st : List PV} {M : Mem} {Q : Option PV → Mem → Prop} : WP d 0 994 [some (vr x), l1, l2, l3] (st) M Q = WP d 0 995 [some (vr x), l1, l2, l3] (vr x :: st) M Q := w1 mC_0 d0_994 rfl rfl
theorem d0_995 : decode cL_law 995 = .ok (.iload_n 3, 1) := by decide +kernel
theorem k0_995 {d : Nat} {x : Int32} {l0 l1 l2 : Option PV} {st : List PV} {M : Mem} {Q : Option PV → Mem → Prop} : WP d 0 995 [l0, l1, l2, some (vi x)] (st) M Q = WP d 0 996 [l0, l1, l2, some (vi x)] (vi x :: st) M Q := w1 mC_0 d0_995 rfl rfl
theorem d0_996 : decode cL_law 996 = .ok (.iconst 2, 1) := by decide +kernel
theorem k0_996 {d : Nat} {l0 l1 l2 l3 : Option PV} {st : List PV} {M : Mem} {Q : Option PV → Mem → Prop} : WP d 0 996 [l0, l1, l2, l3] (st) M Q = WP d 0 997 [l0, l1, l2, l3] (vi 2 :: st) M Q := w_iconst mC_0 d0_996 (by decide)
theorem d0_997 : decode cL_law 997 = .ok (.iadd, 1) := by decide +kernel
theorem k0_997 {d : Nat} {l0 l1 l2 l3 : Option PV} {st : List PV} {M : Mem} {Q : Option PV → Mem → Prop} {x y : Int32} : WP d 0 997 [l0, l1, l2, l3] (vi y :: vi x :: st) M Q = WP d 0 998 [l0, l1, l2, l3] (vi (x + y) :: st) M Q := w1 mC_0 d0_997 rfl rfl
theorem d0_998 : decode cL_law 998 = .ok (.iaload, 1) := by decide +kernel
theorem k0_998 {d : Nat} {l0 l1 l2 l3 : Option PV} {st : List PV} {M : Mem} {Q : Option PV → Mem → Prop} {r : Nat} {j : Int32} (hk : mK M r = 13) (hj : inb j (mN M r)) : WP d 0 998 [l0, l1, l2, l3] (vi j :: vr r :: st) M Q = WP d 0 999 [l0, l1, l2, l3] (vi (mI M r (ix j)) :: st) M Q := w_sld mC_0 d0_998 hk hj
theorem d0_999 : decode cL_law 999 = .ok (.invokevirtual 116, 3) := by decide +kernel
theorem k0_999 {d : Nat} {l0 l1 l2 l3 : Option PV} {st : List PV} {M : Mem} {Q : Option PV → Mem → Prop} {a0 a1 : Int32} {r : Nat} (hl : szL st ≤ 8) (hk : mK M r = 12) : WP (d + 1) 0 999 [l0, l1, l2, l3] (vi a1 :: vi a0 :: vr r :: st) M Q = WP d 223 0 [some (vr r), some (vi a0), some (vi a1)] [] M (fun v M' => WP (d + 1) 0 1002 [l0, l1, l2, l3] (psh v st) M' Q) := w_callV mC_0 d0_999 (ci := 12) rfl rfl rfl (Nat.le_of_ble_eq_true rfl) (by decide) rfl hl hk
theorem d0_1002 : decode cL_law 1002 = .ok (.if_icmp .eq 494, 3) := by decide +kernel
theorem k0_1002 {d : Nat} {l0 l1 l2 l3 : Option PV} {st : List PV} {M : Mem} {Q : Option PV → Mem → Prop} {x y : Int32} : WP d 0 1002 [l0, l1, l2, l3] (vi y :: vi x :: st) M Q = (if x = y then WP d 0 1496 [l0, l1, l2, l3] (st) M Q else WP d 0 1005 [l0, l1, l2, l3] (st) M Q) := w_ic_eq mC_0 d0_1002 (by decide)
theorem d0_1005 : decode cL_law 1005 = .ok (.iconst 0, 1) := by decide +kernel
theorem k0_1005 {d : Nat} {l0 l1 l2 l3 : Option PV} {st : List PV} {M : Mem} {Q : Option PV → Mem → Prop} : WP d 0 1005 [l0, l1, l2, l3] (st) M Q = WP d 0 1006 [l0, l1, l2, l3] (vi 0 :: st) M Q := w_iconst mC_0 d0_1005 (by decide)
theorem d0_1006 : decode cL_law 1006 = .ok (.ireturn, 1) := by decide +kernel
theorem k0_1006 {d : Nat} {l0 l1 l2 l3 : Option PV} {M : Mem} {Q : Option PV → Mem → Prop} {x : Int32} (hx : x = 0 ∨ x = 1) : WP d 0 1006 [l0, l1, l2, l3] ([vi x]) M Q = Q (some (vi x)) M := w_zret mC_0 d0_1006 rfl hx
theorem d0_1007 : decode cL_law 1007 = .ok (.aload_n 1, 1) := by decide +kernel
theorem k0_1007 {d x : Nat} {l0 l2 l3 : Option PV} {st : List PV} {M : Mem} {Q : Option PV → Mem → Prop} : WP d 0 1007 [l0, some (vr x), l2, l3] (st) M Q = WP d 0 1008 [l0, some (vr x), l2, l3] (vr x :: st) M Q := w1 mC_0 d0_1007 rfl rfl
theorem d0_1008 : decode cL_law 1008 = .ok (.aload_n 0, 1) := by decide +kernel
theorem k0_1008 {d x : Nat} {l1 l2 l3 : Option PV} {st : List PV} {M : Mem} {Q : Option PV → Mem → Prop} : WP d 0 1008 [some (vr x), l1, l2, l3] (st) M Q = WP d 0 1009 [some (vr x), l1, l2, l3] (vr x :: st) M Q := w1 mC_0 d0_1008 rfl rfl
theorem d0_1009 : decode cL_law 1009 = .ok (.iload_n 3, 1) := by decide +kernel
theorem k0_1009 {d : Nat} {x : Int32} {l0 l1 l2 : Option PV} {st : List PV} {M : Mem} {Q : Option PV → Mem → Prop} : WP d 0 1009 [l0, l1, l2, some (vi x)] (st) M Q = WP d 0 1010 [l0, l1, l2, some (vi x)] (vi x :: st) M Q := w1 mC_0 d0_1009 rfl rfl
theorem d0_1010 : decode cL_law 1010 = .ok (.iconst 1, 1) := by decide +kernel
theorem k0_1010 {d : Nat} {l0 l1 l2 l3 : Option PV} {st : List PV} {M : Mem} {Q : Option PV → Mem → Prop} : WP d 0 1010 [l0, l1, l2, l3] (st) M Q = WP d 0 1011 [l0, l1, l2, l3] (vi 1 :: st) M Q := w_iconst mC_0 d0_1010 (by decide)
theorem d0_1011 : decode cL_law 1011 = .ok (.iadd, 1) := by decide +kernel
theorem k0_1011 {d : Nat} {l0 l1 l2 l3 : Option PV} {st : List PV} {M : Mem} {Q : Option PV → Mem → Prop} {x y : Int32} : WP d 0 1011 [l0, l1, l2, l3] (vi y :: vi x :: st) M Q = WP d 0 1012 [l0, l1, l2, l3] (vi (x + y) :: st) M Q := w1 mC_0 d0_1011 rfl rfl
theorem d0_1012 : decode cL_law 1012 = .ok (.iaload, 1) := by decide +kernel
theorem k0_1012 {d : Nat} {l0 l1 l2 l3 : Option PV} {st : List PV} {M : Mem} {Q : Option PV → Mem → Prop} {r : Nat} {j : Int32} (hk : mK M r = 13) (hj : inb j (mN M r)) : WP d 0 1012 [l0, l1, l2, l3] (vi j :: vr r :: st) M Q = WP d 0 1013 [l0, l1, l2, l3] (vi (mI M r (ix j)) :: st) M Q := w_sld mC_0 d0_1012 hk hj
theorem d0_1013 : decode cL_law 1013 = .ok (.invokevirtual 117, 3) := by decide +kernel
theorem k0_1013 {d : Nat} {l0 l1 l2 l3 : Option PV} {st : List PV} {M : Mem} {Q : Option PV → Mem → Prop} {a0 : Int32} {r : Nat} (hl : szL st ≤ 8) (hk : mK M r = 11) : WP (d + 1) 0 1013 [l0, l1, l2, l3] (vi a0 :: vr r :: st) M Q = WP d 120 0 [some (vr r), some (vi a0), none] [] M (fun v M' => WP (d + 1) 0 1016 [l0, l1, l2, l3] (psh v st) M' Q) := w_callV mC_0 d0_1013 (ci := 11) rfl rfl rfl (Nat.le_of_ble_eq_true rfl) (by decide) rfl hl hk
theorem d0_1016 : decode cL_law 1016 = .ok (.aload_n 2, 1) := by decide +kernel
theorem k0_1016 {d x : Nat} {l0 l1 l3 : Option PV} {st : List PV} {M : Mem} {Q : Option PV → Mem → Prop} : WP d 0 1016 [l0, l1, some (vr x), l3] (st) M Q = WP d 0 1017 [l0, l1, some (vr x), l3] (vr x :: st) M Q := w1 mC_0 d0_1016 rfl rfl
theorem d0_1017 : decode cL_law 1017 = .ok (.aload_n 0, 1) := by decide +kernel
theorem k0_1017 {d x : Nat} {l1 l2 l3 : Option PV} {st : List PV} {M : Mem} {Q : Option PV → Mem → Prop} : WP d 0 1017 [some (vr x), l1, l2, l3] (st) M Q = WP d 0 1018 [some (vr x), l1, l2, l3] (vr x :: st) M Q := w1 mC_0 d0_1017 rfl rfl
theorem d0_1018 : decode cL_law 1018 = .ok (.iload_n 3, 1) := by decide +kernel
theorem k0_1018 {d : Nat} {x : Int32} {l0 l1 l2 : Option PV} {st : List PV} {M : Mem} {Q : Option PV → Mem → Prop} : WP d 0 1018 [l0, l1, l2, some (vi x)] (st) M Q = WP d 0 1019 [l0, l1, l2, some (vi x)] (vi x :: st) M Q := w1 mC_0 d0_1018 rfl rfl
theorem d0_1019 : decode cL_law 1019 = .ok (.iconst 1, 1) := by decide +kernel
theorem k0_1019 {d : Nat} {l0 l1 l2 l3 : Option PV} {st : List PV} {M : Mem} {Q : Option PV → Mem → Prop} : WP d 0 1019 [l0, l1, l2, l3] (st) M Q = WP d 0 1020 [l0, l1, l2, l3] (vi 1 :: st) M Q := w_iconst mC_0 d0_1019 (by decide)
theorem d0_1020 : decode cL_law 1020 = .ok (.iadd, 1) := by decide +kernel
theorem k0_1020 {d : Nat} {l0 l1 l2 l3 : Option PV} {st : List PV} {M : Mem} {Q : Option PV → Mem → Prop} {x y : Int32} : WP d 0 1020 [l0, l1, l2, l3] (vi y :: vi x :: st) M Q = WP d 0 1021 [l0, l1, l2, l3] (vi (x + y) :: st) M Q := w1 mC_0 d0_1020 rfl rfl
theorem d0_1021 : decode cL_law 1021 = .ok (.iaload, 1) := by decide +kernel
theorem k0_1021 {d : Nat} {l0 l1 l2 l3 : Option PV} {st : List PV} {M : Mem} {Q : Option PV → Mem → Prop} {r : Nat} {j : Int32} (hk : mK M r = 13) (hj : inb j (mN M r)) : WP d 0 1021 [l0, l1, l2, l3] (vi j :: vr r :: st) M Q = WP d 0 1022 [l0, l1, l2, l3] (vi (mI M r (ix j)) :: st) M Q := w_sld mC_0 d0_1021 hk hj
theorem d0_1022 : decode cL_law 1022 = .ok (.invokevirtual 120, 3) := by decide +kernel
theorem k0_1022 {d : Nat} {l0 l1 l2 l3 : Option PV} {st : List PV} {M : Mem} {Q : Option PV → Mem → Prop} {a0 : Int32} {r : Nat} (hl : szL st ≤ 8) (hk : mK M r = 12) : WP (d + 1) 0 1022 [l0, l1, l2, l3] (vi a0 :: vr r :: st) M Q = WP d 224 0 [some (vr r), some (vi a0), none] [] M (fun v M' => WP (d + 1) 0 1025 [l0, l1, l2, l3] (psh v st) M' Q) := w_callV mC_0 d0_1022 (ci := 12) rfl rfl rfl (Nat.le_of_ble_eq_true rfl) (by decide) rfl hl hk
theorem d0_1025 : decode cL_law 1025 = .ok (.if_icmp .eq 471, 3) := by decide +kernel
theorem k0_1025 {d : Nat} {l0 l1 l2 l3 : Option PV} {st : List PV} {M : Mem} {Q : Option PV → Mem → Prop} {x y : Int32} : WP d 0 1025 [l0, l1, l2, l3] (vi y :: vi x :: st) M Q = (if x = y then WP d 0 1496 [l0, l1, l2, l3] (st) M Q else WP d 0 1028 [l0, l1, l2, l3] (st) M Q) := w_ic_eq mC_0 d0_1025 (by decide)
theorem d0_1028 : decode cL_law 1028 = .ok (.iconst 0, 1) := by decide +kernel
theorem k0_1028 {d : Nat} {l0 l1 l2 l3 : Option PV} {st : List PV} {M : Mem} {Q : Option PV → Mem → Prop} : WP d 0 1028 [l0, l1, l2, l3] (st) M Q = WP d 0 1029 [l0, l1, l2, l3] (vi 0 :: st) M Q := w_iconst mC_0 d0_1028 (by decide)
theorem d0_1029 : decode cL_law 1029 = .ok (.ireturn, 1) := by decide +kernel
theorem k0_1029 {d : Nat} {l0 l1 l2 l3 : Option PV} {M : Mem} {Q : Option PV → Mem → Prop} {x : Int32} (hx : x = 0 ∨ x = 1) : WP d 0 1029 [l0, l1, l2, l3] ([vi x]) M Q = Q (some (vi x)) M := w_zret mC_0 d0_1029 rfl hx
theorem d0_1030 : decode cL_law 1030 = .ok (.aload_n 1, 1) := by decide +kernel
theorem k0_1030 {d x : Nat} {l0 l2 l3 : Option PV} {st : List PV} {M : Mem} {Q : Option PV → Mem → Prop} : WP d 0 1030 [l0, some (vr x), l2, l3] (st) M Q = WP d 0 1031 [l0, some (vr x), l2, l3] (vr x :: st) M Q := w1 mC_0 d0_1030 rfl rfl
theorem d0_1031 : decode cL_law 1031 = .ok (.aload_n 0, 1) := by decide +kernel
theorem k0_1031 {d x : Nat} {l1 l2 l3 : Option PV} {st : List PV} {M : Mem} {Q : Option PV → Mem → Prop} : WP d 0 1031 [some (vr x), l1, l2, l3] (st) M Q = WP d 0 1032 [some (vr x), l1, l2, l3] (vr x :: st) M Q := w1 mC_0 d0_1031 rfl rfl
theorem d0_1032 : decode cL_law 1032 = .ok (.iload_n 3, 1) := by decide +kernel
theorem k0_1032 {d : Nat} {x : Int32} {l0 l1 l2 : Option PV} {st : List PV} {M : Mem} {Q : Option PV → Mem → Prop} : WP d 0 1032 [l0, l1, l2, some (vi x)] (st) M Q = WP d 0 1033 [l0, l1, l2, some (vi x)] (vi x :: st) M Q := w1 mC_0 d0_1032 rfl rfl
theorem d0_1033 : decode cL_law 1033 = .ok (.iconst 1, 1) := by decide +kernel
theorem k0_1033 {d : Nat} {l0 l1 l2 l3 : Option PV} {st : List PV} {M : Mem} {Q : Option PV → Mem → Prop} : WP d 0 1033 [l0, l1, l2, l3] (st) M Q = WP d 0 1034 [l0, l1, l2, l3] (vi 1 :: st) M Q := w_iconst mC_0 d0_1033 (by decide)
theorem d0_1034 : decode cL_law 1034 = .ok (.iadd, 1) := by decide +kernel
theorem k0_1034 {d : Nat} {l0 l1 l2 l3 : Option PV} {st : List PV} {M : Mem} {Q : Option PV → Mem → Prop} {x y : Int32} : WP d 0 1034 [l0, l1, l2, l3] (vi y :: vi x :: st) M Q = WP d 0 1035 [l0, l1, l2, l3] (vi (x + y) :: st) M Q := w1 mC_0 d0_1034 rfl rfl
theorem d0_1035 : decode cL_law 1035 = .ok (.iaload, 1) := by decide +kernel
theorem k0_1035 {d : Nat} {l0 l1 l2 l3 : Option PV} {st : List PV} {M : Mem} {Q : Option PV → Mem → Prop} {r : Nat} {j : Int32} (hk : mK M r = 13) (hj : inb j (mN M r)) : WP d 0 1035 [l0, l1, l2, l3] (vi j :: vr r :: st) M Q = WP d 0 1036 [l0, l1, l2, l3] (vi (mI M r (ix j)) :: st) M Q := w_sld mC_0 d0_1035 hk hj
theorem d0_1036 : decode cL_law 1036 = .ok (.invokevirtual 121, 3) := by decide +kernel
theorem k0_1036 {d : Nat} {l0 l1 l2 l3 : Option PV} {st : List PV} {M : Mem} {Q : Option PV → Mem → Prop} {a0 : Int32} {r : Nat} (hl : szL st ≤ 8) (hk : mK M r = 11) : WP (d + 1) 0 1036 [l0, l1, l2, l3] (vi a0 :: vr r :: st) M Q = WP d 121 0 [some (vr r), some (vi a0)] [] M (fun v M' => WP (d + 1) 0 1039 [l0, l1, l2, l3] (psh v st) M' Q) := w_callV mC_0 d0_1036 (ci := 11) rfl rfl rfl (Nat.le_of_ble_eq_true rfl) (by decide) rfl hl hk
theorem d0_1039 : decode cL_law 1039 = .ok (.aload_n 2, 1) := by decide +kernel
theorem k0_1039 {d x : Nat} {l0 l1 l3 : Option PV} {st : List PV} {M : Mem} {Q : Option PV → Mem → Prop} : WP d 0 1039 [l0, l1, some (vr x), l3] (st) M Q = WP d 0 1040 [l0, l1, some (vr x), l3] (vr x :: st) M Q := w1 mC_0 d0_1039 rfl rfl
theorem d0_1040 : decode cL_law 1040 = .ok (.aload_n 0, 1) := by decide +kernel
theorem k0_1040 {d x : Nat} {l1 l2 l3 : Option PV} {st : List PV} {M : Mem} {Q : Option PV → Mem → Prop} : WP d 0 1040 [some (vr x), l1, l2, l3] (st) M Q = WP d 0 1041 [some (vr x), l1, l2, l3] (vr x :: st) M Q := w1 mC_0 d0_1040 rfl rfl
theorem d0_1041 : decode cL_law 1041 = .ok (.iload_n 3, 1) := by decide +kernel
theorem k0_1041 {d : Nat} {x : Int32} {l0 l1 l2 : Option PV} {st : List PV} {M : Mem} {Q : Option PV → Mem → Prop} : WP d 0 1041 [l0, l1, l2, some (vi x)] (st) M Q = WP d 0 1042 [l0, l1, l2, some (vi x)] (vi x :: st) M Q := w1 mC_0 d0_1041 rfl rfl
theorem d0_1042 : decode cL_law 1042 = .ok (.iconst 1, 1) := by decide +kernel
theorem k0_1042 {d : Nat} {l0 l1 l2 l3 : Option PV} {st : List PV} {M : Mem} {Q : Option PV → Mem → Prop} : WP d 0 1042 [l0, l1, l2, l3] (st) M Q = WP d 0 1043 [l0, l1, l2, l3] (vi 1 :: st) M Q := w_iconst mC_0 d0_1042 (by decide)
theorem d0_1043 : decode cL_law 1043 = .ok (.iadd, 1) := by decide +kernel
theorem k0_1043 {d : Nat} {l0 l1 l2 l3 : Option PV} {st : List PV} {M : Mem} {Q : Option PV → Mem → Prop} {x y : Int32} : WP d 0 1043 [l0, l1, l2, l3] (vi y :: vi x :: st) M Q = WP d 0 1044 [l0, l1, l2, l3] (vi (x + y) :: st) M Q := w1 mC_0 d0_1043 rfl rfl
theorem d0_1044 : decode cL_law 1044 = .ok (.iaload, 1) := by decide +kernel
theorem k0_1044 {d : Nat} {l0 l1 l2 l3 : Option PV} {st : List PV} {M : Mem} {Q : Option PV → Mem → Prop} {r : Nat} {j : Int32} (hk : mK M r = 13) (hj : inb j (mN M r)) : WP d 0 1044 [l0, l1, l2, l3] (vi j :: vr r :: st) M Q = WP d 0 1045 [l0, l1, l2, l3] (vi (mI M r (ix j)) :: st) M Q := w_sld mC_0 d0_1044 hk hj
theorem d0_1045 : decode cL_law 1045 = .ok (.invokevirtual 124, 3) := by decide +kernel
theorem k0_1045 {d : Nat} {l0 l1 l2 l3 : Option PV} {st : List PV} {M : Mem} {Q : Option PV → Mem → Prop} {a0 : Int32} {r : Nat} (hl : szL st ≤ 8) (hk : mK M r = 12) : WP (d + 1) 0 1045 [l0, l1, l2, l3] (vi a0 :: vr r :: st) M Q = WP d 225 0 [some (vr r), some (vi a0)] [] M (fun v M' => WP (d + 1) 0 1048 [l0, l1, l2, l3] (psh v st) M' Q) := w_callV mC_0 d0_1045 (ci := 12) rfl rfl rfl (Nat.le_of_ble_eq_true rfl) (by decide) rfl hl hk
theorem d0_1048 : decode cL_law 1048 = .ok (.if_icmp .eq 448, 3) := by decide +kernel
theorem k0_1048 {d : Nat} {l0 l1 l2 l3 : Option PV} {st : List PV} {M : Mem} {Q : Option PV → Mem → Prop} {x y : Int32} : WP d 0 1048 [l0, l1, l2, l3] (vi y :: vi x :: st) M Q = (if x = y then WP d 0 1496 [l0, l1, l2, l3] (st) M Q else WP d 0 1051 [l0, l1, l2, l3] (st) M Q) := w_ic_eq mC_0 d0_1048 (by decide)
theorem d0_1051 : decode cL_law 1051 = .ok (.iconst 0, 1) := by decide +kernel
theorem k0_1051 {d : Nat} {l0 l1 l2 l3 : Option PV} {st : List PV} {M : Mem} {Q : Option PV → Mem → Prop} : WP d 0 1051 [l0, l1, l2, l3] (st) M Q = WP d 0 1052 [l0, l1, l2, l3] (vi 0 :: st) M Q := w_iconst mC_0 d0_1051 (by decide)
theorem d0_1052 : decode cL_law 1052 = .ok (.ireturn, 1) := by decide +kernel
theorem k0_1052 {d : Nat} {l0 l1 l2 l3 : Option PV} {M : Mem} {Q : Option PV → Mem → Prop} {x : Int32} (hx : x = 0 ∨ x = 1) : WP d 0 1052 [l0, l1, l2, l3] ([vi x]) M Q = Q (some (vi x)) M := w_zret mC_0 d0_1052 rfl hx
theorem d0_1053 : decode cL_law 1053 = .ok (.aload_n 1, 1) := by decide +kernel
theorem k0_1053 {d x : Nat} {l0 l2 l3 : Option PV} {st : List PV} {M : Mem} {Q : Option PV → Mem → Prop} : WP d 0 1053 [l0, some (vr x), l2, l3] (st) M Q = WP d 0 1054 [l0, some (vr x), l2, l3] (vr x :: st) M Q := w1 mC_0 d0_1053 rfl rfl
theorem d0_1054 : decode cL_law 1054 = .ok (.invokevirtual 125, 3) := by decide +kernel
theorem k0_1054 {d : Nat} {l0 l1 l2 l3 : Option PV} {st : List PV} {M : Mem} {Q : Option PV → Mem → Prop} {r : Nat} (hl : szL st ≤ 8) (hk : mK M r = 11) : WP (d + 1) 0 1054 [l0, l1, l2, l3] (vr r :: st) M Q = WP d 122 0 [some (vr r)] [] M (fun v M' => WP (d + 1) 0 1057 [l0, l1, l2, l3] (psh v st) M' Q) := w_callV mC_0 d0_1054 (ci := 11) rfl rfl rfl (Nat.le_of_ble_eq_true rfl) (by decide) rfl hl hk
theorem d0_1057 : decode cL_law 1057 = .ok (.aload_n 2, 1) := by decide +kernel
theorem k0_1057 {d x : Nat} {l0 l1 l3 : Option PV} {st : List PV} {M : Mem} {Q : Option PV → Mem → Prop} : WP d 0 1057 [l0, l1, some (vr x), l3] (st) M Q = WP d 0 1058 [l0, l1, some (vr x), l3] (vr x :: st) M Q := w1 mC_0 d0_1057 rfl rfl
theorem d0_1058 : decode cL_law 1058 = .ok (.invokevirtual 128, 3) := by decide +kernel
theorem k0_1058 {d : Nat} {l0 l1 l2 l3 : Option PV} {st : List PV} {M : Mem} {Q : Option PV → Mem → Prop} {r : Nat} (hl : szL st ≤ 8) (hk : mK M r = 12) : WP (d + 1) 0 1058 [l0, l1, l2, l3] (vr r :: st) M Q = WP d 226 0 [some (vr r), none] [] M (fun v M' => WP (d + 1) 0 1061 [l0, l1, l2, l3] (psh v st) M' Q) := w_callV mC_0 d0_1058 (ci := 12) rfl rfl rfl (Nat.le_of_ble_eq_true rfl) (by decide) rfl hl hk
theorem d0_1061 : decode cL_law 1061 = .ok (.if_icmp .eq 435, 3) := by decide +kernel
theorem k0_1061 {d : Nat} {l0 l1 l2 l3 : Option PV} {st : List PV} {M : Mem} {Q : Option PV → Mem → Prop} {x y : Int32} : WP d 0 1061 [l0, l1, l2, l3] (vi y :: vi x :: st) M Q = (if x = y then WP d 0 1496 [l0, l1, l2, l3] (st) M Q else WP d 0 1064 [l0, l1, l2, l3] (st) M Q) := w_ic_eq mC_0 d0_1061 (by decide)
theorem d0_1064 : decode cL_law 1064 = .ok (.iconst 0, 1) := by decide +kernel
theorem k0_1064 {d : Nat} {l0 l1 l2 l3 : Option PV} {st : List PV} {M : Mem} {Q : Option PV → Mem → Prop} : WP d 0 1064 [l0, l1, l2, l3] (st) M Q = WP d 0 1065 [l0, l1, l2, l3] (vi 0 :: st) M Q := w_iconst mC_0 d0_1064 (by decide)
theorem d0_1065 : decode cL_law 1065 = .ok (.ireturn, 1) := by decide +kernel
theorem k0_1065 {d : Nat} {l0 l1 l2 l3 : Option PV} {M : Mem} {Q : Option PV → Mem → Prop} {x : Int32} (hx : x = 0 ∨ x = 1) : WP d 0 1065 [l0, l1, l2, l3] ([vi x]) M Q = Q (some (vi x)) M := w_zret mC_0 d0_1065 rfl hx
theorem d0_1066 : decode cL_law 1066 = .ok (.aload_n 1, 1) := by decide +kernel
theorem k0_1066 {d x : Nat} {l0 l2 l3 : Option PV} {st : List PV} {M : Mem} {Q : Option PV → Mem → Prop} : WP d 0 1066 [l0, some (vr x), l2, l3] (st) M Q = WP d 0 1067 [l0, some (vr x), l2, l3] (vr x :: st) M Q := w1 mC_0 d0_1066 rfl rfl
theorem d0_1067 : decode cL_law 1067 = .ok (.invokevirtual 129, 3) := by decide +kernel
theorem k0_1067 {d : Nat} {l0 l1 l2 l3 : Option PV} {st : List PV} {M : Mem} {Q : Option PV → Mem → Prop} {r : Nat} (hl : szL st ≤ 8) (hk : mK M r = 11) : WP (d + 1) 0 1067 [l0, l1, l2, l3] (vr r :: st) M Q = WP d 123 0 [some (vr r)] [] M (fun v M' => WP (d + 1) 0 1070 [l0, l1, l2, l3] (psh v st) M' Q) := w_callV mC_0 d0_1067 (ci := 11) rfl rfl rfl (Nat.le_of_ble_eq_true rfl) (by decide) rfl hl hk
theorem d0_1070 : decode cL_law 1070 = .ok (.aload_n 2, 1) := by decide +kernel
theorem k0_1070 {d x : Nat} {l0 l1 l3 : Option PV} {st : List PV} {M : Mem} {Q : Option PV → Mem → Prop} : WP d 0 1070 [l0, l1, some (vr x), l3] (st) M Q = WP d 0 1071 [l0, l1, some (vr x), l3] (vr x :: st) M Q := w1 mC_0 d0_1070 rfl rfl
theorem d0_1071 : decode cL_law 1071 = .ok (.invokevirtual 132, 3) := by decide +kernel
theorem k0_1071 {d : Nat} {l0 l1 l2 l3 : Option PV} {st : List PV} {M : Mem} {Q : Option PV → Mem → Prop} {r : Nat} (hl : szL st ≤ 8) (hk : mK M r = 12) : WP (d + 1) 0 1071 [l0, l1, l2, l3] (vr r :: st) M Q = WP d 227 0 [some (vr r), none] [] M (fun v M' => WP (d + 1) 0 1074 [l0, l1, l2, l3] (psh v st) M' Q) := w_callV mC_0 d0_1071 (ci := 12) rfl rfl rfl (Nat.le_of_ble_eq_true rfl) (by decide) rfl hl hk
theorem d0_1074 : decode cL_law 1074 = .ok (.if_icmp .eq 422, 3) := by decide +kernel
theorem k0_1074 {d : Nat} {l0 l1 l2 l3 : Option PV} {st : List PV} {M : Mem} {Q : Option PV → Mem → Prop} {x y : Int32} : WP d 0 1074 [l0, l1, l2, l3] (vi y :: vi x :: st) M Q = (if x = y then WP d 0 1496 [l0, l1, l2, l3] (st) M Q else WP d 0 1077 [l0, l1, l2, l3] (st) M Q) := w_ic_eq mC_0 d0_1074 (by decide)
theorem d0_1077 : decode cL_law 1077 = .ok (.iconst 0, 1) := by decide +kernel
theorem k0_1077 {d : Nat} {l0 l1 l2 l3 : Option PV} {st : List PV} {M : Mem} {Q : Option PV → Mem → Prop} : WP d 0 1077 [l0, l1, l2, l3] (st) M Q = WP d 0 1078 [l0, l1, l2, l3] (vi 0 :: st) M Q := w_iconst mC_0 d0_1077 (by decide)
theorem d0_1078 : decode cL_law 1078 = .ok (.ireturn, 1) := by decide +kernel
theorem k0_1078 {d : Nat} {l0 l1 l2 l3 : Option PV} {M : Mem} {Q : Option PV → Mem → Prop} {x : Int32} (hx : x = 0 ∨ x = 1) : WP d 0 1078 [l0, l1, l2, l3] ([vi x]) M Q = Q (some (vi x)) M := w_zret mC_0 d0_1078 rfl hx
theorem d0_1079 : decode cL_law 1079 = .ok (.aload_n 1, 1) := by decide +kernel
theorem k0_1079 {d x : Nat} {l0 l2 l3 : Option PV} {st : List PV} {M : Mem} {Q : Option PV → Mem → Prop} : WP d 0 1079 [l0, some (vr x), l2, l3] (st) M Q = WP d 0 1080 [l0, some (vr x), l2, l3] (vr x :: st) M Q := w1 mC_0 d0_1079 rfl rfl
theorem d0_1080 : decode cL_law 1080 = .ok (.invokevirtual 133, 3) := by decide +kernel
theorem k0_1080 {d : Nat} {l0 l1 l2 l3 : Option PV} {st : List PV} {M : Mem} {Q : Option PV → Mem → Prop} {r : Nat} (hl : szL st ≤ 8) (hk : mK M r = 11) : WP (d + 1) 0 1080 [l0, l1, l2, l3] (vr r :: st) M Q = WP d 126 0 [some (vr r), none] [] M (fun v M' => WP (d + 1) 0 1083 [l0, l1, l2, l3] (psh v st) M' Q) := w_callV mC_0 d0_1080 (ci := 11) rfl rfl rfl (Nat.le_of_ble_eq_true rfl) (by decide) rfl hl hk
theorem d0_1083 : decode cL_law 1083 = .ok (.aload_n 2, 1) := by decide +kernel
theorem k0_1083 {d x : Nat} {l0 l1 l3 : Option PV} {st : List PV} {M : Mem} {Q : Option PV → Mem → Prop} : WP d 0 1083 [l0, l1, some (vr x), l3] (st) M Q = WP d 0 1084 [l0, l1, some (vr x), l3] (vr x :: st) M Q := w1 mC_0 d0_1083 rfl rfl
theorem d0_1084 : decode cL_law 1084 = .ok (.invokevirtual 136, 3) := by decide +kernel
theorem k0_1084 {d : Nat} {l0 l1 l2 l3 : Option PV} {st : List PV} {M : Mem} {Q : Option PV → Mem → Prop} {r : Nat} (hl : szL st ≤ 8) (hk : mK M r = 12) : WP (d + 1) 0 1084 [l0, l1, l2, l3] (vr r :: st) M Q = WP d 162 0 [some (vr r)] [] M (fun v M' => WP (d + 1) 0 1087 [l0, l1, l2, l3] (psh v st) M' Q) := w_callV mC_0 d0_1084 (ci := 12) rfl rfl rfl (Nat.le_of_ble_eq_true rfl) (by decide) rfl hl hk
theorem d0_1087 : decode cL_law 1087 = .ok (.if_icmp .eq 409, 3) := by decide +kernel
theorem k0_1087 {d : Nat} {l0 l1 l2 l3 : Option PV} {st : List PV} {M : Mem} {Q : Option PV → Mem → Prop} {x y : Int32} : WP d 0 1087 [l0, l1, l2, l3] (vi y :: vi x :: st) M Q = (if x = y then WP d 0 1496 [l0, l1, l2, l3] (st) M Q else WP d 0 1090 [l0, l1, l2, l3] (st) M Q) := w_ic_eq mC_0 d0_1087 (by decide)
theorem d0_1090 : decode cL_law 1090 = .ok (.iconst 0, 1) := by decide +kernel
theorem k0_1090 {d : Nat} {l0 l1 l2 l3 : Option PV} {st : List PV} {M : Mem} {Q : Option PV → Mem → Prop} : WP d 0 1090 [l0, l1, l2, l3] (st) M Q = WP d 0 1091 [l0, l1, l2, l3] (vi 0 :: st) M Q := w_iconst mC_0 d0_1090 (by decide)
theorem d0_1091 : decode cL_law 1091 = .ok (.ireturn, 1) := by decide +kernel
theorem k0_1091 {d : Nat} {l0 l1 l2 l3 : Option PV} {M : Mem} {Q : Option PV → Mem → Prop} {x : Int32} (hx : x = 0 ∨ x = 1) : WP d 0 1091 [l0, l1, l2, l3] ([vi x]) M Q = Q (some (vi x)) M := w_zret mC_0 d0_1091 rfl hx
theorem d0_1092 : decode cL_law 1092 = .ok (.aload_n 1, 1) := by decide +kernel
theorem k0_1092 {d x : Nat} {l0 l2 l3 : Option PV} {st : List PV} {M : Mem} {Q : Option PV → Mem → Prop} : WP d 0 1092 [l0, some (vr x), l2, l3] (st) M Q = WP d 0 1093 [l0, some (vr x), l2, l3] (vr x :: st) M Q := w1 mC_0 d0_1092 rfl rfl
theorem d0_1093 : decode cL_law 1093 = .ok (.invokevirtual 137, 3) := by decide +kernel
theorem k0_1093 {d : Nat} {l0 l1 l2 l3 : Option PV} {st : List PV} {M : Mem} {Q : Option PV → Mem → Prop} {r : Nat} (hl : szL st ≤ 8) (hk : mK M r = 11) : WP (d + 1) 0 1093 [l0, l1, l2, l3] (vr r :: st) M Q = WP d 127 0 [some (vr r), none] [] M (fun v M' => WP (d + 1) 0 1096 [l0, l1, l2, l3] (psh v st) M' Q) := w_callV mC_0 d0_1093 (ci := 11) rfl rfl rfl (Nat.le_of_ble_eq_true rfl) (by decide) rfl hl hk
theorem d0_1096 : decode cL_law 1096 = .ok (.aload_n 2, 1) := by decide +kernel
theorem k0_1096 {d x : Nat} {l0 l1 l3 : Option PV} {st : List PV} {M : Mem} {Q : Option PV → Mem → Prop} : WP d 0 1096 [l0, l1, some (vr x), l3] (st) M Q = WP d 0 1097 [l0, l1, some (vr x), l3] (vr x :: st) M Q := w1 mC_0 d0_1096 rfl rfl
theorem d0_1097 : decode cL_law 1097 = .ok (.invokevirtual 140, 3) := by decide +kernel
theorem k0_1097 {d : Nat} {l0 l1 l2 l3 : Option PV} {st : List PV} {M : Mem} {Q : Option PV → Mem → Prop} {r : Nat} (hl : szL st ≤ 8) (hk : mK M r = 12) : WP (d + 1) 0 1097 [l0, l1, l2, l3] (vr r :: st) M Q = WP d 163 0 [some (vr r)] [] M (fun v M' => WP (d + 1) 0 1100 [l0, l1, l2, l3] (psh v st) M' Q) := w_callV mC_0 d0_1097 (ci := 12) rfl rfl rfl (Nat.le_of_ble_eq_true rfl) (by decide) rfl hl hk
theorem d0_1100 : decode cL_law 1100 = .ok (.if_icmp .eq 396, 3) := by decide +kernel
theorem k0_1100 {d : Nat} {l0 l1 l2 l3 : Option PV} {st : List PV} {M : Mem} {Q : Option PV → Mem → Prop} {x y : Int32} : WP d 0 1100 [l0, l1, l2, l3] (vi y :: vi x :: st) M Q = (if x = y then WP d 0 1496 [l0, l1, l2, l3] (st) M Q else WP d 0 1103 [l0, l1, l2, l3] (st) M Q) := w_ic_eq mC_0 d0_1100 (by decide)
theorem d0_1103 : decode cL_law 1103 = .ok (.iconst 0, 1) := by decide +kernel
theorem k0_1103 {d : Nat} {l0 l1 l2 l3 : Option PV} {st : List PV} {M : Mem} {Q : Option PV → Mem → Prop} : WP d 0 1103 [l0, l1, l2, l3] (st) M Q = WP d 0 1104 [l0, l1, l2, l3] (vi 0 :: st) M Q := w_iconst mC_0 d0_1103 (by decide)
theorem d0_1104 : decode cL_law 1104 = .ok (.ireturn, 1) := by decide +kernel
theorem k0_1104 {d : Nat} {l0 l1 l2 l3 : Option PV} {M : Mem} {Q : Option PV → Mem → Prop} {x : Int32} (hx : x = 0 ∨ x = 1) : WP d 0 1104 [l0, l1, l2, l3] ([vi x]) M Q = Q (some (vi x)) M := w_zret mC_0 d0_1104 rfl hx
theorem d0_1105 : decode cL_law 1105 = .ok (.aload_n 1, 1) := by decide +kernel
theorem k0_1105 {d x : Nat} {l0 l2 l3 : Option PV} {st : List PV} {M : Mem} {Q : Option PV → Mem → Prop} : WP d 0 1105 [l0, some (vr x), l2, l3] (st) M Q = WP d 0 1106 [l0, some (vr x), l2, l3] (vr x :: st) M Q := w1 mC_0 d0_1105 rfl rfl
theorem d0_1106 : decode cL_law 1106 = .ok (.aload_n 0, 1) := by decide +kernel
theorem k0_1106 {d x : Nat} {l1 l2 l3 : Option PV} {st : List PV} {M : Mem} {Q : Option PV → Mem → Prop} : WP d 0 1106 [some (vr x), l1, l2, l3] (st) M Q = WP d 0 1107 [some (vr x), l1, l2, l3] (vr x :: st) M Q := w1 mC_0 d0_1106 rfl rfl
theorem d0_1107 : decode cL_law 1107 = .ok (.iload_n 3, 1) := by decide +kernel
theorem k0_1107 {d : Nat} {x : Int32} {l0 l1 l2 : Option PV} {st : List PV} {M : Mem} {Q : Option PV → Mem → Prop} : WP d 0 1107 [l0, l1, l2, some (vi x)] (st) M Q = WP d 0 1108 [l0, l1, l2, some (vi x)] (vi x :: st) M Q := w1 mC_0 d0_1107 rfl rfl
theorem d0_1108 : decode cL_law 1108 = .ok (.iconst 1, 1) := by decide +kernel
theorem k0_1108 {d : Nat} {l0 l1 l2 l3 : Option PV} {st : List PV} {M : Mem} {Q : Option PV → Mem → Prop} : WP d 0 1108 [l0, l1, l2, l3] (st) M Q = WP d 0 1109 [l0, l1, l2, l3] (vi 1 :: st) M Q := w_iconst mC_0 d0_1108 (by decide)
theorem d0_1109 : decode cL_law 1109 = .ok (.iadd, 1) := by decide +kernel
theorem k0_1109 {d : Nat} {l0 l1 l2 l3 : Option PV} {st : List PV} {M : Mem} {Q : Option PV → Mem → Prop} {x y : Int32} : WP d 0 1109 [l0, l1, l2, l3] (vi y :: vi x :: st) M Q = WP d 0 1110 [l0, l1, l2, l3] (vi (x + y) :: st) M Q := w1 mC_0 d0_1109 rfl rfl
theorem d0_1110 : decode cL_law 1110 = .ok (.iaload, 1) := by decide +kernel
theorem k0_1110 {d : Nat} {l0 l1 l2 l3 : Option PV} {st : List PV} {M : Mem} {Q : Option PV → Mem → Prop} {r : Nat} {j : Int32} (hk : mK M r = 13) (hj : inb j (mN M r)) : WP d 0 1110 [l0, l1, l2, l3] (vi j :: vr r :: st) M Q = WP d 0 1111 [l0, l1, l2, l3] (vi (mI M r (ix j)) :: st) M Q := w_sld mC_0 d0_1110 hk hj
theorem d0_1111 : decode cL_law 1111 = .ok (.invokevirtual 141, 3) := by decide +kernel
theorem k0_1111 {d : Nat} {l0 l1 l2 l3 : Option PV} {st : List PV} {M : Mem} {Q : Option PV → Mem → Prop} {a0 : Int32} {r : Nat} (hl : szL st ≤ 8) (hk : mK M r = 11) : WP (d + 1) 0 1111 [l0, l1, l2, l3] (vi a0 :: vr r :: st) M Q = WP d 128 0 [some (vr r), some (vi a0)] [] M (fun v M' => WP (d + 1) 0 1114 [l0, l1, l2, l3] (psh v st) M' Q) := w_callV mC_0 d0_1111 (ci := 11) rfl rfl rfl (Nat.le_of_ble_eq_true rfl) (by decide) rfl hl hk
theorem d0_1114 : decode cL_law 1114 = .ok (.aload_n 2, 1) := by decide +kernel
theorem k0_1114 {d x : Nat} {l0 l1 l3 : Option PV} {st : List PV} {M : Mem} {Q : Option PV → Mem → Prop} : WP d 0 1114 [l0, l1, some (vr x), l3] (st) M Q = WP d 0 1115 [l0, l1, some (vr x), l3] (vr x :: st) M Q := w1 mC_0 d0_1114 rfl rfl
theorem d0_1115 : decode cL_law 1115 = .ok (.aload_n 0, 1) := by decide +kernel
theorem k0_1115 {d x : Nat} {l1 l2 l3 : Option PV} {st : List PV} {M : Mem} {Q : Option PV → Mem → Prop} : WP d 0 1115 [some (vr x), l1, l2, l3] (st) M Q = WP d 0 1116 [some (vr x), l1, l2, l3] (vr x :: st) M Q := w1 mC_0 d0_1115 rfl rfl
theorem d0_1116 : decode cL_law 1116 = .ok (.iload_n 3, 1) := by decide +kernel
theorem k0_1116 {d : Nat} {x : Int32} {l0 l1 l2 : Option PV} {st : List PV} {M : Mem} {Q : Option PV → Mem → Prop} : WP d 0 1116 [l0, l1, l2, some (vi x)] (st) M Q = WP d 0 1117 [l0, l1, l2, some (vi x)] (vi x :: st) M Q := w1 mC_0 d0_1116 rfl rfl
theorem d0_1117 : decode cL_law 1117 = .ok (.iconst 1, 1) := by decide +kernel
theorem k0_1117 {d : Nat} {l0 l1 l2 l3 : Option PV} {st : List PV} {M : Mem} {Q : Option PV → Mem → Prop} : WP d 0 1117 [l0, l1, l2, l3] (st) M Q = WP d 0 1118 [l0, l1, l2, l3] (vi 1 :: st) M Q := w_iconst mC_0 d0_1117 (by decide)
theorem d0_1118 : decode cL_law 1118 = .ok (.iadd, 1) := by decide +kernel
theorem k0_1118 {d : Nat} {l0 l1 l2 l3 : Option PV} {st : List PV} {M : Mem} {Q : Option PV → Mem → Prop} {x y : Int32} : WP d 0 1118 [l0, l1, l2, l3] (vi y :: vi x :: st) M Q = WP d 0 1119 [l0, l1, l2, l3] (vi (x + y) :: st) M Q := w1 mC_0 d0_1118 rfl rfl
theorem d0_1119 : decode cL_law 1119 = .ok (.iaload, 1) := by decide +kernel
theorem k0_1119 {d : Nat} {l0 l1 l2 l3 : Option PV} {st : List PV} {M : Mem} {Q : Option PV → Mem → Prop} {r : Nat} {j : Int32} (hk : mK M r = 13) (hj : inb j (mN M r)) : WP d 0 1119 [l0, l1, l2, l3] (vi j :: vr r :: st) M Q = WP d 0 1120 [l0, l1, l2, l3] (vi (mI M r (ix j)) :: st) M Q := w_sld mC_0 d0_1119 hk hj
theorem d0_1120 : decode cL_law 1120 = .ok (.invokevirtual 144, 3) := by decide +kernel
theorem k0_1120 {d : Nat} {l0 l1 l2 l3 : Option PV} {st : List PV} {M : Mem} {Q : Option PV → Mem → Prop} {a0 : Int32} {r : Nat} (hl : szL st ≤ 8) (hk : mK M r = 12) : WP (d + 1) 0 1120 [l0, l1, l2, l3] (vi a0 :: vr r :: st) M Q = WP d 234 0 [some (vr r), some (vi a0)] [] M (fun v M' => WP (d + 1) 0 1123 [l0, l1, l2, l3] (psh v st) M' Q) := w_callV mC_0 d0_1120 (ci := 12) rfl rfl rfl (Nat.le_of_ble_eq_true rfl) (by decide) rfl hl hk
theorem d0_1123 : decode cL_law 1123 = .ok (.if_icmp .eq 373, 3) := by decide +kernel
theorem k0_1123 {d : Nat} {l0 l1 l2 l3 : Option PV} {st : List PV} {M : Mem} {Q : Option PV → Mem → Prop} {x y : Int32} : WP d 0 1123 [l0, l1, l2, l3] (vi y :: vi x :: st) M Q = (if x = y then WP d 0 1496 [l0, l1, l2, l3] (st) M Q else WP d 0 1126 [l0, l1, l2, l3] (st) M Q) := w_ic_eq mC_0 d0_1123 (by decide)
theorem d0_1126 : decode cL_law 1126 = .ok (.iconst 0, 1) := by decide +kernel
theorem k0_1126 {d : Nat} {l0 l1 l2 l3 : Option PV} {st : List PV} {M : Mem} {Q : Option PV → Mem → Prop} : WP d 0 1126 [l0, l1, l2, l3] (st) M Q = WP d 0 1127 [l0, l1, l2, l3] (vi 0 :: st) M Q := w_iconst mC_0 d0_1126 (by decide)
theorem d0_1127 : decode cL_law 1127 = .ok (.ireturn, 1) := by decide +kernel
theorem k0_1127 {d : Nat} {l0 l1 l2 l3 : Option PV} {M : Mem} {Q : Option PV → Mem → Prop} {x : Int32} (hx : x = 0 ∨ x = 1) : WP d 0 1127 [l0, l1, l2, l3] ([vi x]) M Q = Q (some (vi x)) M := w_zret mC_0 d0_1127 rfl hx
theorem d0_1128 : decode cL_law 1128 = .ok (.aload_n 1, 1) := by decide +kernel
theorem k0_1128 {d x : Nat} {l0 l2 l3 : Option PV} {st : List PV} {M : Mem} {Q : Option PV → Mem → Prop} : WP d 0 1128 [l0, some (vr x), l2, l3] (st) M Q = WP d 0 1129 [l0, some (vr x), l2, l3] (vr x :: st) M Q := w1 mC_0 d0_1128 rfl rfl
theorem d0_1129 : decode cL_law 1129 = .ok (.aload_n 0, 1) := by decide +kernel
theorem k0_1129 {d x : Nat} {l1 l2 l3 : Option PV} {st : List PV} {M : Mem} {Q : Option PV → Mem → Prop} : WP d 0 1129 [some (vr x), l1, l2, l3] (st) M Q = WP d 0 1130 [some (vr x), l1, l2, l3] (vr x :: st) M Q := w1 mC_0 d0_1129 rfl rfl
theorem d0_1130 : decode cL_law 1130 = .ok (.iload_n 3, 1) := by decide +kernel
theorem k0_1130 {d : Nat} {x : Int32} {l0 l1 l2 : Option PV} {st : List PV} {M : Mem} {Q : Option PV → Mem → Prop} : WP d 0 1130 [l0, l1, l2, some (vi x)] (st) M Q = WP d 0 1131 [l0, l1, l2, some (vi x)] (vi x :: st) M Q := w1 mC_0 d0_1130 rfl rfl
theorem d0_1131 : decode cL_law 1131 = .ok (.iconst 1, 1) := by decide +kernel
theorem k0_1131 {d : Nat} {l0 l1 l2 l3 : Option PV} {st : List PV} {M : Mem} {Q : Option PV → Mem → Prop} : WP d 0 1131 [l0, l1, l2, l3] (st) M Q = WP d 0 1132 [l0, l1, l2, l3] (vi 1 :: st) M Q := w_iconst mC_0 d0_1131 (by decide)
theorem d0_1132 : decode cL_law 1132 = .ok (.iadd, 1) := by decide +kernel
theorem k0_1132 {d : Nat} {l0 l1 l2 l3 : Option PV} {st : List PV} {M : Mem} {Q : Option PV → Mem → Prop} {x y : Int32} : WP d 0 1132 [l0, l1, l2, l3] (vi y :: vi x :: st) M Q = WP d 0 1133 [l0, l1, l2, l3] (vi (x + y) :: st) M Q := w1 mC_0 d0_1132 rfl rfl
theorem d0_1133 : decode cL_law 1133 = .ok (.iaload, 1) := by decide +kernel
theorem k0_1133 {d : Nat} {l0 l1 l2 l3 : Option PV} {st : List PV} {M : Mem} {Q : Option PV → Mem → Prop} {r : Nat} {j : Int32} (hk : mK M r = 13) (hj : inb j (mN M r)) : WP d 0 1133 [l0, l1, l2, l3] (vi j :: vr r :: st) M Q = WP d 0 1134 [l0, l1, l2, l3] (vi (mI M r (ix j)) :: st) M Q := w_sld mC_0 d0_1133 hk hj
theorem d0_1134 : decode cL_law 1134 = .ok (.aload_n 0, 1) := by decide +kernel
theorem k0_1134 {d x : Nat} {l1 l2 l3 : Option PV} {st : List PV} {M : Mem} {Q : Option PV → Mem → Prop} : WP d 0 1134 [some (vr x), l1, l2, l3] (st) M Q = WP d 0 1135 [some (vr x), l1, l2, l3] (vr x :: st) M Q := w1 mC_0 d0_1134 rfl rfl
theorem d0_1135 : decode cL_law 1135 = .ok (.iload_n 3, 1) := by decide +kernel
theorem k0_1135 {d : Nat} {x : Int32} {l0 l1 l2 : Option PV} {st : List PV} {M : Mem} {Q : Option PV → Mem → Prop} : WP d 0 1135 [l0, l1, l2, some (vi x)] (st) M Q = WP d 0 1136 [l0, l1, l2, some (vi x)] (vi x :: st) M Q := w1 mC_0 d0_1135 rfl rfl
theorem d0_1136 : decode cL_law 1136 = .ok (.iconst 2, 1) := by decide +kernel
theorem k0_1136 {d : Nat} {l0 l1 l2 l3 : Option PV} {st : List PV} {M : Mem} {Q : Option PV → Mem → Prop} : WP d 0 1136 [l0, l1, l2, l3] (st) M Q = WP d 0 1137 [l0, l1, l2, l3] (vi 2 :: st) M Q := w_iconst mC_0 d0_1136 (by decide)
theorem d0_1137 : decode cL_law 1137 = .ok (.iadd, 1) := by decide +kernel
theorem k0_1137 {d : Nat} {l0 l1 l2 l3 : Option PV} {st : List PV} {M : Mem} {Q : Option PV → Mem → Prop} {x y : Int32} : WP d 0 1137 [l0, l1, l2, l3] (vi y :: vi x :: st) M Q = WP d 0 1138 [l0, l1, l2, l3] (vi (x + y) :: st) M Q := w1 mC_0 d0_1137 rfl rfl
theorem d0_1138 : decode cL_law 1138 = .ok (.iaload, 1) := by decide +kernel
theorem k0_1138 {d : Nat} {l0 l1 l2 l3 : Option PV} {st : List PV} {M : Mem} {Q : Option PV → Mem → Prop} {r : Nat} {j : Int32} (hk : mK M r = 13) (hj : inb j (mN M r)) : WP d 0 1138 [l0, l1, l2, l3] (vi j :: vr r :: st) M Q = WP d 0 1139 [l0, l1, l2, l3] (vi (mI M r (ix j)) :: st) M Q := w_sld mC_0 d0_1138 hk hj
theorem d0_1139 : decode cL_law 1139 = .ok (.aload_n 0, 1) := by decide +kernel
theorem k0_1139 {d x : Nat} {l1 l2 l3 : Option PV} {st : List PV} {M : Mem} {Q : Option PV → Mem → Prop} : WP d 0 1139 [some (vr x), l1, l2, l3] (st) M Q = WP d 0 1140 [some (vr x), l1, l2, l3] (vr x :: st) M Q := w1 mC_0 d0_1139 rfl rfl
theorem d0_1140 : decode cL_law 1140 = .ok (.iload_n 3, 1) := by decide +kernel
theorem k0_1140 {d : Nat} {x : Int32} {l0 l1 l2 : Option PV} {st : List PV} {M : Mem} {Q : Option PV → Mem → Prop} : WP d 0 1140 [l0, l1, l2, some (vi x)] (st) M Q = WP d 0 1141 [l0, l1, l2, some (vi x)] (vi x :: st) M Q := w1 mC_0 d0_1140 rfl rfl
theorem d0_1141 : decode cL_law 1141 = .ok (.iconst 3, 1) := by decide +kernel
theorem k0_1141 {d : Nat} {l0 l1 l2 l3 : Option PV} {st : List PV} {M : Mem} {Q : Option PV → Mem → Prop} : WP d 0 1141 [l0, l1, l2, l3] (st) M Q = WP d 0 1142 [l0, l1, l2, l3] (vi 3 :: st) M Q := w_iconst mC_0 d0_1141 (by decide)
theorem d0_1142 : decode cL_law 1142 = .ok (.iadd, 1) := by decide +kernel
theorem k0_1142 {d : Nat} {l0 l1 l2 l3 : Option PV} {st : List PV} {M : Mem} {Q : Option PV → Mem → Prop} {x y : Int32} : WP d 0 1142 [l0, l1, l2, l3] (vi y :: vi x :: st) M Q = WP d 0 1143 [l0, l1, l2, l3] (vi (x + y) :: st) M Q := w1 mC_0 d0_1142 rfl rfl
theorem d0_1143 : decode cL_law 1143 = .ok (.iaload, 1) := by decide +kernel
theorem k0_1143 {d : Nat} {l0 l1 l2 l3 : Option PV} {st : List PV} {M : Mem} {Q : Option PV → Mem → Prop} {r : Nat} {j : Int32} (hk : mK M r = 13) (hj : inb j (mN M r)) : WP d 0 1143 [l0, l1, l2, l3] (vi j :: vr r :: st) M Q = WP d 0 1144 [l0, l1, l2, l3] (vi (mI M r (ix j)) :: st) M Q := w_sld mC_0 d0_1143 hk hj
theorem d0_1144 : decode cL_law 1144 = .ok (.invokevirtual 145, 3) := by decide +kernel
theorem k0_1144 {d : Nat} {l0 l1 l2 l3 : Option PV} {st : List PV} {M : Mem} {Q : Option PV → Mem → Prop} {a0 a1 a2 : Int32} {r : Nat} (hl : szL st ≤ 8) (hk : mK M r = 11) : WP (d + 1) 0 1144 [l0, l1, l2, l3] (vi a2 :: vi a1 :: vi a0 :: vr r :: st) M Q = WP d 130 0 [some (vr r), some (vi a0), some (vi a1), some (vi a2), none] [] M (fun v M' => WP (d + 1) 0 1147 [l0, l1, l2, l3] (psh v st) M' Q) := w_callV mC_0 d0_1144 (ci := 11) rfl rfl rfl (Nat.le_of_ble_eq_true rfl) (by decide) rfl hl hk
theorem d0_1147 : decode cL_law 1147 = .ok (.aload_n 2, 1) := by decide +kernel
theorem k0_1147 {d x : Nat} {l0 l1 l3 : Option PV} {st : List PV} {M : Mem} {Q : Option PV → Mem → Prop} : WP d 0 1147 [l0, l1, some (vr x), l3] (st) M Q = WP d 0 1148 [l0, l1, some (vr x), l3] (vr x :: st) M Q := w1 mC_0 d0_1147 rfl rfl
theorem d0_1148 : decode cL_law 1148 = .ok (.aload_n 0, 1) := by decide +kernel
theorem k0_1148 {d x : Nat} {l1 l2 l3 : Option PV} {st : List PV} {M : Mem} {Q : Option PV → Mem → Prop} : WP d 0 1148 [some (vr x), l1, l2, l3] (st) M Q = WP d 0 1149 [some (vr x), l1, l2, l3] (vr x :: st) M Q := w1 mC_0 d0_1148 rfl rfl
theorem d0_1149 : decode cL_law 1149 = .ok (.iload_n 3, 1) := by decide +kernel
theorem k0_1149 {d : Nat} {x : Int32} {l0 l1 l2 : Option PV} {st : List PV} {M : Mem} {Q : Option PV → Mem → Prop} : WP d 0 1149 [l0, l1, l2, some (vi x)] (st) M Q = WP d 0 1150 [l0, l1, l2, some (vi x)] (vi x :: st) M Q := w1 mC_0 d0_1149 rfl rfl
theorem d0_1150 : decode cL_law 1150 = .ok (.iconst 1, 1) := by decide +kernel
theorem k0_1150 {d : Nat} {l0 l1 l2 l3 : Option PV} {st : List PV} {M : Mem} {Q : Option PV → Mem → Prop} : WP d 0 1150 [l0, l1, l2, l3] (st) M Q = WP d 0 1151 [l0, l1, l2, l3] (vi 1 :: st) M Q := w_iconst mC_0 d0_1150 (by decide)
theorem d0_1151 : decode cL_law 1151 = .ok (.iadd, 1) := by decide +kernel
theorem k0_1151 {d : Nat} {l0 l1 l2 l3 : Option PV} {st : List PV} {M : Mem} {Q : Option PV → Mem → Prop} {x y : Int32} : WP d 0 1151 [l0, l1, l2, l3] (vi y :: vi x :: st) M Q = WP d 0 1152 [l0, l1, l2, l3] (vi (x + y) :: st) M Q := w1 mC_0 d0_1151 rfl rfl
theorem d0_1152 : decode cL_law 1152 = .ok (.iaload, 1) := by decide +kernel
theorem k0_1152 {d : Nat} {l0 l1 l2 l3 : Option PV} {st : List PV} {M : Mem} {Q : Option PV → Mem → Prop} {r : Nat} {j : Int32} (hk : mK M r = 13) (hj : inb j (mN M r)) : WP d 0 1152 [l0, l1, l2, l3] (vi j :: vr r :: st) M Q = WP d 0 1153 [l0, l1, l2, l3] (vi (mI M r (ix j)) :: st) M Q := w_sld mC_0 d0_1152 hk hj
theorem d0_1153 : decode cL_law 1153 = .ok (.aload_n 0, 1) := by decide +kernel
theorem k0_1153 {d x : Nat} {l1 l2 l3 : Option PV} {st : List PV} {M : Mem} {Q : Option PV → Mem → Prop} : WP d 0 1153 [some (vr x), l1, l2, l3] (st) M Q = WP d 0 1154 [some (vr x), l1, l2, l3] (vr x :: st) M Q := w1 mC_0 d0_1153 rfl rfl
theorem d0_1154 : decode cL_law 1154 = .ok (.iload_n 3, 1) := by decide +kernel
theorem k0_1154 {d : Nat} {x : Int32} {l0 l1 l2 : Option PV} {st : List PV} {M : Mem} {Q : Option PV → Mem → Prop} : WP d 0 1154 [l0, l1, l2, some (vi x)] (st) M Q = WP d 0 1155 [l0, l1, l2, some (vi x)] (vi x :: st) M Q := w1 mC_0 d0_1154 rfl rfl
theorem d0_1155 : decode cL_law 1155 = .ok (.iconst 2, 1) := by decide +kernel
theorem k0_1155 {d : Nat} {l0 l1 l2 l3 : Option PV} {st : List PV} {M : Mem} {Q : Option PV → Mem → Prop} : WP d 0 1155 [l0, l1, l2, l3] (st) M Q = WP d 0 1156 [l0, l1, l2, l3] (vi 2 :: st) M Q := w_iconst mC_0 d0_1155 (by decide)
theorem d0_1156 : decode cL_law 1156 = .ok (.iadd, 1) := by decide +kernel
theorem k0_1156 {d : Nat} {l0 l1 l2 l3 : Option PV} {st : List PV} {M : Mem} {Q : Option PV → Mem → Prop} {x y : Int32} : WP d 0 1156 [l0, l1, l2, l3] (vi y :: vi x :: st) M Q = WP d 0 1157 [l0, l1, l2, l3] (vi (x + y) :: st) M Q := w1 mC_0 d0_1156 rfl rfl
theorem d0_1157 : decode cL_law 1157 = .ok (.iaload, 1) := by decide +kernel
theorem k0_1157 {d : Nat} {l0 l1 l2 l3 : Option PV} {st : List PV} {M : Mem} {Q : Option PV → Mem → Prop} {r : Nat} {j : Int32} (hk : mK M r = 13) (hj : inb j (mN M r)) : WP d 0 1157 [l0, l1, l2, l3] (vi j :: vr r :: st) M Q = WP d 0 1158 [l0, l1, l2, l3] (vi (mI M r (ix j)) :: st) M Q := w_sld mC_0 d0_1157 hk hj
theorem d0_1158 : decode cL_law 1158 = .ok (.aload_n 0, 1) := by decide +kernel
theorem k0_1158 {d x : Nat} {l1 l2 l3 : Option PV} {st : List PV} {M : Mem} {Q : Option PV → Mem → Prop} : WP d 0 1158 [some (vr x), l1, l2, l3] (st) M Q = WP d 0 1159 [some (vr x), l1, l2, l3] (vr x :: st) M Q := w1 mC_0 d0_1158 rfl rfl
theorem d0_1159 : decode cL_law 1159 = .ok (.iload_n 3, 1) := by decide +kernel
theorem k0_1159 {d : Nat} {x : Int32} {l0 l1 l2 : Option PV} {st : List PV} {M : Mem} {Q : Option PV → Mem → Prop} : WP d 0 1159 [l0, l1, l2, some (vi x)] (st) M Q = WP d 0 1160 [l0, l1, l2, some (vi x)] (vi x :: st) M Q := w1 mC_0 d0_1159 rfl rfl
theorem d0_1160 : decode cL_law 1160 = .ok (.iconst 3, 1) := by decide +kernel
theorem k0_1160 {d : Nat} {l0 l1 l2 l3 : Option PV} {st : List PV} {M : Mem} {Q : Option PV → Mem → Prop} : WP d 0 1160 [l0, l1, l2, l3] (st) M Q = WP d 0 1161 [l0, l1, l2, l3] (vi 3 :: st) M Q := w_iconst mC_0 d0_1160 (by decide)
theorem d0_1161 : decode cL_law 1161 = .ok (.iadd, 1) := by decide +kernel
theorem k0_1161 {d : Nat} {l0 l1 l2 l3 : Option PV} {st : List PV} {M : Mem} {Q : Option PV → Mem → Prop} {x y : Int32} : WP d 0 1161 [l0, l1, l2, l3] (vi y :: vi x :: st) M Q = WP d 0 1162 [l0, l1, l2, l3] (vi (x + y) :: st) M Q := w1 mC_0 d0_1161 rfl rfl
theorem d0_1162 : decode cL_law 1162 = .ok (.iaload, 1) := by decide +kernel
theorem k0_1162 {d : Nat} {l0 l1 l2 l3 : Option PV} {st : List PV} {M : Mem} {Q : Option PV → Mem → Prop} {r : Nat} {j : Int32} (hk : mK M r = 13) (hj : inb j (mN M r)) : WP d 0 1162 [l0, l1, l2, l3] (vi j :: vr r :: st) M Q = WP d 0 1163 [l0, l1, l2, l3] (vi (mI M r (ix j)) :: st) M Q := w_sld mC_0 d0_1162 hk hj
theorem d0_1163 : decode cL_law 1163 = .ok (.invokevirtual 148, 3) := by decide +kernel
theorem k0_1163 {d : Nat} {l0 l1 l2 l3 : Option PV} {st : List PV} {M : Mem} {Q : Option PV → Mem → Prop} {a0 a1 a2 : Int32} {r : Nat} (hl : szL st ≤ 8) (hk : mK M r = 12) : WP (d + 1) 0 1163 [l0, l1, l2, l3] (vi a2 :: vi a1 :: vi a0 :: vr r :: st) M Q = WP d 235 0 [some (vr r), some (vi a0), some (vi a1), some (vi a2), none] [] M (fun v M' => WP (d + 1) 0 1166 [l0, l1, l2, l3] (psh v st) M' Q) := w_callV mC_0 d0_1163 (ci := 12) rfl rfl rfl (Nat.le_of_ble_eq_true rfl) (by decide) rfl hl hk
theorem d0_1166 : decode cL_law 1166 = .ok (.if_icmp .eq 330, 3) := by decide +kernel
theorem k0_1166 {d : Nat} {l0 l1 l2 l3 : Option PV} {st : List PV} {M : Mem} {Q : Option PV → Mem → Prop} {x y : Int32} : WP d 0 1166 [l0, l1, l2, l3] (vi y :: vi x :: st) M Q = (if x = y then WP d 0 1496 [l0, l1, l2, l3] (st) M Q else WP d 0 1169 [l0, l1, l2, l3] (st) M Q) := w_ic_eq mC_0 d0_1166 (by decide)
theorem d0_1169 : decode cL_law 1169 = .ok (.iconst 0, 1) := by decide +kernel
theorem k0_1169 {d : Nat} {l0 l1 l2 l3 : Option PV} {st : List PV} {M : Mem} {Q : Option PV → Mem → Prop} : WP d 0 1169 [l0, l1, l2, l3] (st) M Q = WP d 0 1170 [l0, l1, l2, l3] (vi 0 :: st) M Q := w_iconst mC_0 d0_1169 (by decide)
theorem d0_1170 : decode cL_law 1170 = .ok (.ireturn, 1) := by decide +kernel
theorem k0_1170 {d : Nat} {l0 l1 l2 l3 : Option PV} {M : Mem} {Q : Option PV → Mem → Prop} {x : Int32} (hx : x = 0 ∨ x = 1) : WP d 0 1170 [l0, l1, l2, l3] ([vi x]) M Q = Q (some (vi x)) M := w_zret mC_0 d0_1170 rfl hx
theorem d0_1171 : decode cL_law 1171 = .ok (.aload_n 1, 1) := by decide +kernel
theorem k0_1171 {d x : Nat} {l0 l2 l3 : Option PV} {st : List PV} {M : Mem} {Q : Option PV → Mem → Prop} : WP d 0 1171 [l0, some (vr x), l2, l3] (st) M Q = WP d 0 1172 [l0, some (vr x), l2, l3] (vr x :: st) M Q := w1 mC_0 d0_1171 rfl rfl
theorem d0_1172 : decode cL_law 1172 = .ok (.aload_n 0, 1) := by decide +kernel
theorem k0_1172 {d x : Nat} {l1 l2 l3 : Option PV} {st : List PV} {M : Mem} {Q : Option PV → Mem → Prop} : WP d 0 1172 [some (vr x), l1, l2, l3] (st) M Q = WP d 0 1173 [some (vr x), l1, l2, l3] (vr x :: st) M Q := w1 mC_0 d0_1172 rfl rfl
theorem d0_1173 : decode cL_law 1173 = .ok (.iload_n 3, 1) := by decide +kernel
theorem k0_1173 {d : Nat} {x : Int32} {l0 l1 l2 : Option PV} {st : List PV} {M : Mem} {Q : Option PV → Mem → Prop} : WP d 0 1173 [l0, l1, l2, some (vi x)] (st) M Q = WP d 0 1174 [l0, l1, l2, some (vi x)] (vi x :: st) M Q := w1 mC_0 d0_1173 rfl rfl
theorem d0_1174 : decode cL_law 1174 = .ok (.iconst 1, 1) := by decide +kernel
theorem k0_1174 {d : Nat} {l0 l1 l2 l3 : Option PV} {st : List PV} {M : Mem} {Q : Option PV → Mem → Prop} : WP d 0 1174 [l0, l1, l2, l3] (st) M Q = WP d 0 1175 [l0, l1, l2, l3] (vi 1 :: st) M Q := w_iconst mC_0 d0_1174 (by decide)
theorem d0_1175 : decode cL_law 1175 = .ok (.iadd, 1) := by decide +kernel
theorem k0_1175 {d : Nat} {l0 l1 l2 l3 : Option PV} {st : List PV} {M : Mem} {Q : Option PV → Mem → Prop} {x y : Int32} : WP d 0 1175 [l0, l1, l2, l3] (vi y :: vi x :: st) M Q = WP d 0 1176 [l0, l1, l2, l3] (vi (x + y) :: st) M Q := w1 mC_0 d0_1175 rfl rfl
theorem d0_1176 : decode cL_law 1176 = .ok (.iaload, 1) := by decide +kernel
theorem k0_1176 {d : Nat} {l0 l1 l2 l3 : Option PV} {st : List PV} {M : Mem} {Q : Option PV → Mem → Prop} {r : Nat} {j : Int32} (hk : mK M r = 13) (hj : inb j (mN M r)) : WP d 0 1176 [l0, l1, l2, l3] (vi j :: vr r :: st) M Q = WP d 0 1177 [l0, l1, l2, l3] (vi (mI M r (ix j)) :: st) M Q := w_sld mC_0 d0_1176 hk hj
theorem d0_1177 : decode cL_law 1177 = .ok (.invokevirtual 149, 3) := by decide +kernel
theorem k0_1177 {d : Nat} {l0 l1 l2 l3 : Option PV} {st : List PV} {M : Mem} {Q : Option PV → Mem → Prop} {a0 : Int32} {r : Nat} (hl : szL st ≤ 8) (hk : mK M r = 11) : WP (d + 1) 0 1177 [l0, l1, l2, l3] (vi a0 :: vr r :: st) M Q = WP d 131 0 [some (vr r), some (vi a0)] [] M (fun v M' => WP (d + 1) 0 1180 [l0, l1, l2, l3] (psh v st) M' Q) := w_callV mC_0 d0_1177 (ci := 11) rfl rfl rfl (Nat.le_of_ble_eq_true rfl) (by decide) rfl hl hk
theorem d0_1180 : decode cL_law 1180 = .ok (.aload_n 2, 1) := by decide +kernel
theorem k0_1180 {d x : Nat} {l0 l1 l3 : Option PV} {st : List PV} {M : Mem} {Q : Option PV → Mem → Prop} : WP d 0 1180 [l0, l1, some (vr x), l3] (st) M Q = WP d 0 1181 [l0, l1, some (vr x), l3] (vr x :: st) M Q := w1 mC_0 d0_1180 rfl rfl
theorem d0_1181 : decode cL_law 1181 = .ok (.aload_n 0, 1) := by decide +kernel
theorem k0_1181 {d x : Nat} {l1 l2 l3 : Option PV} {st : List PV} {M : Mem} {Q : Option PV → Mem → Prop} : WP d 0 1181 [some (vr x), l1, l2, l3] (st) M Q = WP d 0 1182 [some (vr x), l1, l2, l3] (vr x :: st) M Q := w1 mC_0 d0_1181 rfl rfl
theorem d0_1182 : decode cL_law 1182 = .ok (.iload_n 3, 1) := by decide +kernel
theorem k0_1182 {d : Nat} {x : Int32} {l0 l1 l2 : Option PV} {st : List PV} {M : Mem} {Q : Option PV → Mem → Prop} : WP d 0 1182 [l0, l1, l2, some (vi x)] (st) M Q = WP d 0 1183 [l0, l1, l2, some (vi x)] (vi x :: st) M Q := w1 mC_0 d0_1182 rfl rfl
theorem d0_1183 : decode cL_law 1183 = .ok (.iconst 1, 1) := by decide +kernel
theorem k0_1183 {d : Nat} {l0 l1 l2 l3 : Option PV} {st : List PV} {M : Mem} {Q : Option PV → Mem → Prop} : WP d 0 1183 [l0, l1, l2, l3] (st) M Q = WP d 0 1184 [l0, l1, l2, l3] (vi 1 :: st) M Q := w_iconst mC_0 d0_1183 (by decide)
theorem d0_1184 : decode cL_law 1184 = .ok (.iadd, 1) := by decide +kernel
theorem k0_1184 {d : Nat} {l0 l1 l2 l3 : Option PV} {st : List PV} {M : Mem} {Q : Option PV → Mem → Prop} {x y : Int32} : WP d 0 1184 [l0, l1, l2, l3] (vi y :: vi x :: st) M Q = WP d 0 1185 [l0, l1, l2, l3] (vi (x + y) :: st) M Q := w1 mC_0 d0_1184 rfl rfl
theorem d0_1185 : decode cL_law 1185 = .ok (.iaload, 1) := by decide +kernel
theorem k0_1185 {d : Nat} {l0 l1 l2 l3 : Option PV} {st : List PV} {M : Mem} {Q : Option PV → Mem → Prop} {r : Nat} {j : Int32} (hk : mK M r = 13) (hj : inb j (mN M r)) : WP d 0 1185 [l0, l1, l2, l3] (vi j :: vr r :: st) M Q = WP d 0 1186 [l0, l1, l2, l3] (vi (mI M r (ix j)) :: st) M Q := w_sld mC_0 d0_1185 hk hj
theorem d0_1186 : decode cL_law 1186 = .ok (.invokevirtual 152, 3) := by decide +kernel
theorem k0_1186 {d : Nat} {l0 l1 l2 l3 : Option PV} {st : List PV} {M : Mem} {Q : Option PV → Mem → Prop} {a0 : Int32} {r : Nat} (hl : szL st ≤ 8) (hk : mK M r = 12) : WP (d + 1) 0 1186 [l0, l1, l2, l3] (vi a0 :: vr r :: st) M Q = WP d 236 0 [some (vr r), some (vi a0)] [] M (fun v M' => WP (d + 1) 0 1189 [l0, l1, l2, l3] (psh v st) M' Q) := w_callV mC_0 d0_1186 (ci := 12) rfl rfl rfl (Nat.le_of_ble_eq_true rfl) (by decide) rfl hl hk
theorem d0_1189 : decode cL_law 1189 = .ok (.if_icmp .eq 307, 3) := by decide +kernel
theorem k0_1189 {d : Nat} {l0 l1 l2 l3 : Option PV} {st : List PV} {M : Mem} {Q : Option PV → Mem → Prop} {x y : Int32} : WP d 0 1189 [l0, l1, l2, l3] (vi y :: vi x :: st) M Q = (if x = y then WP d 0 1496 [l0, l1, l2, l3] (st) M Q else WP d 0 1192 [l0, l1, l2, l3] (st) M Q) := w_ic_eq mC_0 d0_1189 (by decide)
theorem d0_1192 : decode cL_law 1192 = .ok (.iconst 0, 1) := by decide +kernel
theorem k0_1192 {d : Nat} {l0 l1 l2 l3 : Option PV} {st : List PV} {M : Mem} {Q : Option PV → Mem → Prop} : WP d 0 1192 [l0, l1, l2, l3] (st) M Q = WP d 0 1193 [l0, l1, l2, l3] (vi 0 :: st) M Q := w_iconst mC_0 d0_1192 (by decide)
theorem d0_1193 : decode cL_law 1193 = .ok (.ireturn, 1) := by decide +kernel
theorem k0_1193 {d : Nat} {l0 l1 l2 l3 : Option PV} {M : Mem} {Q : Option PV → Mem → Prop} {x : Int32} (hx : x = 0 ∨ x = 1) : WP d 0 1193 [l0, l1, l2, l3] ([vi x]) M Q = Q (some (vi x)) M := w_zret mC_0 d0_1193 rfl hx
theorem d0_1194 : decode cL_law 1194 = .ok (.aload_n 1, 1) := by decide +kernel
theorem k0_1194 {d x : Nat} {l0 l2 l3 : Option PV} {st : List PV} {M : Mem} {Q : Option PV → Mem → Prop} : WP d 0 1194 [l0, some (vr x), l2, l3] (st) M Q = WP d 0 1195 [l0, some (vr x), l2, l3] (vr x :: st) M Q := w1 mC_0 d0_1194 rfl rfl
theorem d0_1195 : decode cL_law 1195 = .ok (.aload_n 0, 1) := by decide +kernel
theorem k0_1195 {d x : Nat} {l1 l2 l3 : Option PV} {st : List PV} {M : Mem} {Q : Option PV → Mem → Prop} : WP d 0 1195 [some (vr x), l1, l2, l3] (st) M Q = WP d 0 1196 [some (vr x), l1, l2, l3] (vr x :: st) M Q := w1 mC_0 d0_1195 rfl rfl
theorem d0_1196 : decode cL_law 1196 = .ok (.iload_n 3, 1) := by decide +kernel
theorem k0_1196 {d : Nat} {x : Int32} {l0 l1 l2 : Option PV} {st : List PV} {M : Mem} {Q : Option PV → Mem → Prop} : WP d 0 1196 [l0, l1, l2, some (vi x)] (st) M Q = WP d 0 1197 [l0, l1, l2, some (vi x)] (vi x :: st) M Q := w1 mC_0 d0_1196 rfl rfl
theorem d0_1197 : decode cL_law 1197 = .ok (.iconst 1, 1) := by decide +kernel
theorem k0_1197 {d : Nat} {l0 l1 l2 l3 : Option PV} {st : List PV} {M : Mem} {Q : Option PV → Mem → Prop} : WP d 0 1197 [l0, l1, l2, l3] (st) M Q = WP d 0 1198 [l0, l1, l2, l3] (vi 1 :: st) M Q := w_iconst mC_0 d0_1197 (by decide)
theorem d0_1198 : decode cL_law 1198 = .ok (.iadd, 1) := by decide +kernel
theorem k0_1198 {d : Nat} {l0 l1 l2 l3 : Option PV} {st : List PV} {M : Mem} {Q : Option PV → Mem → Prop} {x y : Int32} : WP d 0 1198 [l0, l1, l2, l3] (vi y :: vi x :: st) M Q = WP d 0 1199 [l0, l1, l2, l3] (vi (x + y) :: st) M Q := w1 mC_0 d0_1198 rfl rfl
theorem d0_1199 : decode cL_law 1199 = .ok (.iaload, 1) := by decide +kernel
theorem k0_1199 {d : Nat} {l0 l1 l2 l3 : Option PV} {st : List PV} {M : Mem} {Q : Option PV → Mem → Prop} {r : Nat} {j : Int32} (hk : mK M r = 13) (hj : inb j (mN M r)) : WP d 0 1199 [l0, l1, l2, l3] (vi j :: vr r :: st) M Q = WP d 0 1200 [l0, l1, l2, l3] (vi (mI M r (ix j)) :: st) M Q := w_sld mC_0 d0_1199 hk hj
theorem d0_1200 : decode cL_law 1200 = .ok (.aload_n 0, 1) := by decide +kernel
theorem k0_1200 {d x : Nat} {l1 l2 l3 : Option PV} {st : List PV} {M : Mem} {Q : Option PV → Mem → Prop} : WP d 0 1200 [some (vr x), l1, l2, l3] (st) M Q = WP d 0 1201 [some (vr x), l1, l2, l3] (vr x :: st) M Q := w1 mC_0 d0_1200 rfl rfl
theorem d0_1201 : decode cL_law 1201 = .ok (.iload_n 3, 1) := by decide +kernel
theorem k0_1201 {d : Nat} {x : Int32} {l0 l1 l2 : Option PV} {st : List PV} {M : Mem} {Q : Option PV → Mem → Prop} : WP d 0 1201 [l0, l1, l2, some (vi x)] (st) M Q = WP d 0 1202 [l0, l1, l2, some (vi x)] (vi x :: st) M Q := w1 mC_0 d0_1201 rfl rfl
theorem d0_1202 : decode cL_law 1202 = .ok (.iconst 2, 1) := by decide +kernel
theorem k0_1202 {d : Nat} {l0 l1 l2 l3 : Option PV} {st : List PV} {M : Mem} {Q : Option PV → Mem → Prop} : WP d 0 1202 [l0, l1, l2, l3] (st) M Q = WP d 0 1203 [l0, l1, l2, l3] (vi 2 :: st) M Q := w_iconst mC_0 d0_1202 (by decide)
theorem d0_1203 : decode cL_law 1203 = .ok (.iadd, 1) := by decide +kernel
theorem k0_1203 {d : Nat} {l0 l1 l2 l3 : Option PV} {st : List PV} {M : Mem} {Q : Option PV → Mem → Prop} {x y : Int32} : WP d 0 1203 [l0, l1, l2, l3] (vi y :: vi x :: st) M Q = WP d 0 1204 [l0, l1, l2, l3] (vi (x + y) :: st) M Q := w1 mC_0 d0_1203 rfl rfl
theorem d0_1204 : decode cL_law 1204 = .ok (.iaload, 1) := by decide +kernel
theorem k0_1204 {d : Nat} {l0 l1 l2 l3 : Option PV} {st : List PV} {M : Mem} {Q : Option PV → Mem → Prop} {r : Nat} {j : Int32} (hk : mK M r = 13) (hj : inb j (mN M r)) : WP d 0 1204 [l0, l1, l2, l3] (vi j :: vr r :: st) M Q = WP d 0 1205 [l0, l1, l2, l3] (vi (mI M r (ix j)) :: st) M Q := w_sld mC_0 d0_1204 hk hj
theorem d0_1205 : decode cL_law 1205 = .ok (.invokevirtual 153, 3) := by decide +kernel
theorem k0_1205 {d : Nat} {l0 l1 l2 l3 : Option PV} {st : List PV} {M : Mem} {Q : Option PV → Mem → Prop} {a0 a1 : Int32} {r : Nat} (hl : szL st ≤ 8) (hk : mK M r = 11) : WP (d + 1) 0 1205 [l0, l1, l2, l3] (vi a1 :: vi a0 :: vr r :: st) M Q = WP d 132 0 [some (vr r), some (vi a0), some (vi a1)] [] M (fun v M' => WP (d + 1) 0 1208 [l0, l1, l2, l3] (psh v st) M' Q) := w_callV mC_0 d0_1205 (ci := 11) rfl rfl rfl (Nat.le_of_ble_eq_true rfl) (by decide) rfl hl hk
theorem d0_1208 : decode cL_law 1208 = .ok (.aload_n 2, 1) := by decide +kernel
theorem k0_1208 {d x : Nat} {l0 l1 l3 : Option PV} {st : List PV} {M : Mem} {Q : Option PV → Mem → Prop} : WP d 0 1208 [l0, l1, some (vr x), l3] (st) M Q = WP d 0 1209 [l0, l1, some (vr x), l3] (vr x :: st) M Q := w1 mC_0 d0_1208 rfl rfl
theorem d0_1209 : decode cL_law 1209 = .ok (.aload_n 0, 1) := by decide +kernel
theorem k0_1209 {d x : Nat} {l1 l2 l3 : Option PV} {st : List PV} {M : Mem} {Q : Option PV → Mem → Prop} : WP d 0 1209 [some (vr x), l1, l2, l3] (st) M Q = WP d 0 1210 [some (vr x), l1, l2, l3] (vr x :: st) M Q := w1 mC_0 d0_1209 rfl rfl
theorem d0_1210 : decode cL_law 1210 = .ok (.iload_n 3, 1) := by decide +kernel
theorem k0_1210 {d : Nat} {x : Int32} {l0 l1 l2 : Option PV} {st : List PV} {M : Mem} {Q : Option PV → Mem → Prop} : WP d 0 1210 [l0, l1, l2, some (vi x)] (st) M Q = WP d 0 1211 [l0, l1, l2, some (vi x)] (vi x :: st) M Q := w1 mC_0 d0_1210 rfl rfl
theorem d0_1211 : decode cL_law 1211 = .ok (.iconst 1, 1) := by decide +kernel
theorem k0_1211 {d : Nat} {l0 l1 l2 l3 : Option PV} {st : List PV} {M : Mem} {Q : Option PV → Mem → Prop} : WP d 0 1211 [l0, l1, l2, l3] (st) M Q = WP d 0 1212 [l0, l1, l2, l3] (vi 1 :: st) M Q := w_iconst mC_0 d0_1211 (by decide)
theorem d0_1212 : decode cL_law 1212 = .ok (.iadd, 1) := by decide +kernel
theorem k0_1212 {d : Nat} {l0 l1 l2 l3 : Option PV} {st : List PV} {M : Mem} {Q : Option PV → Mem → Prop} {x y : Int32} : WP d 0 1212 [l0, l1, l2, l3] (vi y :: vi x :: st) M Q = WP d 0 1213 [l0, l1, l2, l3] (vi (x + y) :: st) M Q := w1 mC_0 d0_1212 rfl rfl
theorem d0_1213 : decode cL_law 1213 = .ok (.iaload, 1) := by decide +kernel
theorem k0_1213 {d : Nat} {l0 l1 l2 l3 : Option PV} {st : List PV} {M : Mem} {Q : Option PV → Mem → Prop} {r : Nat} {j : Int32} (hk : mK M r = 13) (hj : inb j (mN M r)) : WP d 0 1213 [l0, l1, l2, l3] (vi j :: vr r :: st) M Q = WP d 0 1214 [l0, l1, l2, l3] (vi (mI M r (ix j)) :: st) M Q := w_sld mC_0 d0_1213 hk hj
theorem d0_1214 : decode cL_law 1214 = .ok (.aload_n 0, 1) := by decide +kernel
theorem k0_1214 {d x : Nat} {l1 l2 l3 : Option PV} {st : List PV} {M : Mem} {Q : Option PV → Mem → Prop} : WP d 0 1214 [some (vr x), l1, l2, l3] (st) M Q = WP d 0 1215 [some (vr x), l1, l2, l3] (vr x :: st) M Q := w1 mC_0 d0_1214 rfl rfl
theorem d0_1215 : decode cL_law 1215 = .ok (.iload_n 3, 1) := by decide +kernel
theorem k0_1215 {d : Nat} {x : Int32} {l0 l1 l2 : Option PV} {st : List PV} {M : Mem} {Q : Option PV → Mem → Prop} : WP d 0 1215 [l0, l1, l2, some (vi x)] (st) M Q = WP d 0 1216 [l0, l1, l2, some (vi x)] (vi x :: st) M Q := w1 mC_0 d0_1215 rfl rfl
theorem d0_1216 : decode cL_law 1216 = .ok (.iconst 2, 1) := by decide +kernel
theorem k0_1216 {d : Nat} {l0 l1 l2 l3 : Option PV} {st : List PV} {M : Mem} {Q : Option PV → Mem → Prop} : WP d 0 1216 [l0, l1, l2, l3] (st) M Q = WP d 0 1217 [l0, l1, l2, l3] (vi 2 :: st) M Q := w_iconst mC_0 d0_1216 (by decide)
theorem d0_1217 : decode cL_law 1217 = .ok (.iadd, 1) := by decide +kernel
theorem k0_1217 {d : Nat} {l0 l1 l2 l3 : Option PV} {st : List PV} {M : Mem} {Q : Option PV → Mem → Prop} {x y : Int32} : WP d 0 1217 [l0, l1, l2, l3] (vi y :: vi x :: st) M Q = WP d 0 1218 [l0, l1, l2, l3] (vi (x + y) :: st) M Q := w1 mC_0 d0_1217 rfl rfl
theorem d0_1218 : decode cL_law 1218 = .ok (.iaload, 1) := by decide +kernel
theorem k0_1218 {d : Nat} {l0 l1 l2 l3 : Option PV} {st : List PV} {M : Mem} {Q : Option PV → Mem → Prop} {r : Nat} {j : Int32} (hk : mK M r = 13) (hj : inb j (mN M r)) : WP d 0 1218 [l0, l1, l2, l3] (vi j :: vr r :: st) M Q = WP d 0 1219 [l0, l1, l2, l3] (vi (mI M r (ix j)) :: st) M Q := w_sld mC_0 d0_1218 hk hj
theorem d0_1219 : decode cL_law 1219 = .ok (.invokevirtual 156, 3) := by decide +kernel
theorem k0_1219 {d : Nat} {l0 l1 l2 l3 : Option PV} {st : List PV} {M : Mem} {Q : Option PV → Mem → Prop} {a0 a1 : Int32} {r : Nat} (hl : szL st ≤ 8) (hk : mK M r = 12) : WP (d + 1) 0 1219 [l0, l1, l2, l3] (vi a1 :: vi a0 :: vr r :: st) M Q = WP d 237 0 [some (vr r), some (vi a0), some (vi a1)] [] M (fun v M' => WP (d + 1) 0 1222 [l0, l1, l2, l3] (psh v st) M' Q) := w_callV mC_0 d0_1219 (ci := 12) rfl rfl rfl (Nat.le_of_ble_eq_true rfl) (by decide) rfl hl hk
theorem d0_1222 : decode cL_law 1222 = .ok (.if_icmp .eq 274, 3) := by decide +kernel
theorem k0_1222 {d : Nat} {l0 l1 l2 l3 : Option PV} {st : List PV} {M : Mem} {Q : Option PV → Mem → Prop} {x y : Int32} : WP d 0 1222 [l0, l1, l2, l3] (vi y :: vi x :: st) M Q = (if x = y then WP d 0 1496 [l0, l1, l2, l3] (st) M Q else WP d 0 1225 [l0, l1, l2, l3] (st) M Q) := w_ic_eq mC_0 d0_1222 (by decide)
theorem d0_1225 : decode cL_law 1225 = .ok (.iconst 0, 1) := by decide +kernel
theorem k0_1225 {d : Nat} {l0 l1 l2 l3 : Option PV} {st : List PV} {M : Mem} {Q : Option PV → Mem → Prop} : WP d 0 1225 [l0, l1, l2, l3] (st) M Q = WP d 0 1226 [l0, l1, l2, l3] (vi 0 :: st) M Q := w_iconst mC_0 d0_1225 (by decide)
theorem d0_1226 : decode cL_law 1226 = .ok (.ireturn, 1) := by decide +kernel
theorem k0_1226 {d : Nat} {l0 l1 l2 l3 : Option PV} {M : Mem} {Q : Option PV → Mem → Prop} {x : Int32} (hx : x = 0 ∨ x = 1) : WP d 0 1226 [l0, l1, l2, l3] ([vi x]) M Q = Q (some (vi x)) M := w_zret mC_0 d0_1226 rfl hx
theorem d0_1227 : decode cL_law 1227 = .ok (.aload_n 1, 1) := by decide +kernel
theorem k0_1227 {d x : Nat} {l0 l2 l3 : Option PV} {st : List PV} {M : Mem} {Q : Option PV → Mem → Prop} : WP d 0 1227 [l0, some (vr x), l2, l3] (st) M Q = WP d 0 1228 [l0, some (vr x), l2, l3] (vr x :: st) M Q := w1 mC_0 d0_1227 rfl rfl
theorem d0_1228 : decode cL_law 1228 = .ok (.aload_n 0, 1) := by decide +kernel
theorem k0_1228 {d x : Nat} {l1 l2 l3 : Option PV} {st : List PV} {M : Mem} {Q : Option PV → Mem → Prop} : WP d 0 1228 [some (vr x), l1, l2, l3] (st) M Q = WP d 0 1229 [some (vr x), l1, l2, l3] (vr x :: st) M Q := w1 mC_0 d0_1228 rfl rfl
theorem d0_1229 : decode cL_law 1229 = .ok (.iload_n 3, 1) := by decide +kernel
theorem k0_1229 {d : Nat} {x : Int32} {l0 l1 l2 : Option PV} {st : List PV} {M : Mem} {Q : Option PV → Mem → Prop} : WP d 0 1229 [l0, l1, l2, some (vi x)] (st) M Q = WP d 0 1230 [l0, l1, l2, some (vi x)] (vi x :: st) M Q := w1 mC_0 d0_1229 rfl rfl
theorem d0_1230 : decode cL_law 1230 = .ok (.iconst 1, 1) := by decide +kernel
theorem k0_1230 {d : Nat} {l0 l1 l2 l3 : Option PV} {st : List PV} {M : Mem} {Q : Option PV → Mem → Prop} : WP d 0 1230 [l0, l1, l2, l3] (st) M Q = WP d 0 1231 [l0, l1, l2, l3] (vi 1 :: st) M Q := w_iconst mC_0 d0_1230 (by decide)
theorem d0_1231 : decode cL_law 1231 = .ok (.iadd, 1) := by decide +kernel
theorem k0_1231 {d : Nat} {l0 l1 l2 l3 : Option PV} {st : List PV} {M : Mem} {Q : Option PV → Mem → Prop} {x y : Int32} : WP d 0 1231 [l0, l1, l2, l3] (vi y :: vi x :: st) M Q = WP d 0 1232 [l0, l1, l2, l3] (vi (x + y) :: st) M Q := w1 mC_0 d0_1231 rfl rfl
theorem d0_1232 : decode cL_law 1232 = .ok (.iaload, 1) := by decide +kernel
theorem k0_1232 {d : Nat} {l0 l1 l2 l3 : Option PV} {st : List PV} {M : Mem} {Q : Option PV → Mem → Prop} {r : Nat} {j : Int32} (hk : mK M r = 13) (hj : inb j (mN M r)) : WP d 0 1232 [l0, l1, l2, l3] (vi j :: vr r :: st) M Q = WP d 0 1233 [l0, l1, l2, l3] (vi (mI M r (ix j)) :: st) M Q := w_sld mC_0 d0_1232 hk hj
theorem d0_1233 : decode cL_law 1233 = .ok (.aload_n 0, 1) := by decide +kernel
theorem k0_1233 {d x : Nat} {l1 l2 l3 : Option PV} {st : List PV} {M : Mem} {Q : Option PV → Mem → Prop} : WP d 0 1233 [some (vr x), l1, l2, l3] (st) M Q = WP d 0 1234 [some (vr x), l1, l2, l3] (vr x :: st) M Q := w1 mC_0 d0_1233 rfl rfl
theorem d0_1234 : decode cL_law 1234 = .ok (.iload_n 3, 1) := by decide +kernel
theorem k0_1234 {d : Nat} {x : Int32} {l0 l1 l2 : Option PV} {st : List PV} {M : Mem} {Q : Option PV → Mem → Prop} : WP d 0 1234 [l0, l1, l2, some (vi x)] (st) M Q = WP d 0 1235 [l0, l1, l2, some (vi x)] (vi x :: st) M Q := w1 mC_0 d0_1234 rfl rfl
theorem d0_1235 : decode cL_law 1235 = .ok (.iconst 2, 1) := by decide +kernel
theorem k0_1235 {d : Nat} {l0 l1 l2 l3 : Option PV} {st : List PV} {M : Mem} {Q : Option PV → Mem → Prop} : WP d 0 1235 [l0, l1, l2, l3] (st) M Q = WP d 0 1236 [l0, l1, l2, l3] (vi 2 :: st) M Q := w_iconst mC_0 d0_1235 (by decide)
theorem d0_1236 : decode cL_law 1236 = .ok (.iadd, 1) := by decide +kernel
theorem k0_1236 {d : Nat} {l0 l1 l2 l3 : Option PV} {st : List PV} {M : Mem} {Q : Option PV → Mem → Prop} {x y : Int32} : WP d 0 1236 [l0, l1, l2, l3] (vi y :: vi x :: st) M Q = WP d 0 1237 [l0, l1, l2, l3] (vi (x + y) :: st) M Q := w1 mC_0 d0_1236 rfl rfl
theorem d0_1237 : decode cL_law 1237 = .ok (.iaload, 1) := by decide +kernel
theorem k0_1237 {d : Nat} {l0 l1 l2 l3 : Option PV} {st : List PV} {M : Mem} {Q : Option PV → Mem → Prop} {r : Nat} {j : Int32} (hk : mK M r = 13) (hj : inb j (mN M r)) : WP d 0 1237 [l0, l1, l2, l3] (vi j :: vr r :: st) M Q = WP d 0 1238 [l0, l1, l2, l3] (vi (mI M r (ix j)) :: st) M Q := w_sld mC_0 d0_1237 hk hj
theorem d0_1238 : decode cL_law 1238 = .ok (.aload_n 0, 1) := by decide +kernel
theorem k0_1238 {d x : Nat} {l1 l2 l3 : Option PV} {st : List PV} {M : Mem} {Q : Option PV → Mem → Prop} : WP d 0 1238 [some (vr x), l1, l2, l3] (st) M Q = WP d 0 1239 [some (vr x), l1, l2, l3] (vr x :: st) M Q := w1 mC_0 d0_1238 rfl rfl
theorem d0_1239 : decode cL_law 1239 = .ok (.iload_n 3, 1) := by decide +kernel
theorem k0_1239 {d : Nat} {x : Int32} {l0 l1 l2 : Option PV} {st : List PV} {M : Mem} {Q : Option PV → Mem → Prop} : WP d 0 1239 [l0, l1, l2, some (vi x)] (st) M Q = WP d 0 1240 [l0, l1, l2, some (vi x)] (vi x :: st) M Q := w1 mC_0 d0_1239 rfl rfl
theorem d0_1240 : decode cL_law 1240 = .ok (.iconst 3, 1) := by decide +kernel
theorem k0_1240 {d : Nat} {l0 l1 l2 l3 : Option PV} {st : List PV} {M : Mem} {Q : Option PV → Mem → Prop} : WP d 0 1240 [l0, l1, l2, l3] (st) M Q = WP d 0 1241 [l0, l1, l2, l3] (vi 3 :: st) M Q := w_iconst mC_0 d0_1240 (by decide)
theorem d0_1241 : decode cL_law 1241 = .ok (.iadd, 1) := by decide +kernel
theorem k0_1241 {d : Nat} {l0 l1 l2 l3 : Option PV} {st : List PV} {M : Mem} {Q : Option PV → Mem → Prop} {x y : Int32} : WP d 0 1241 [l0, l1, l2, l3] (vi y :: vi x :: st) M Q = WP d 0 1242 [l0, l1, l2, l3] (vi (x + y) :: st) M Q := w1 mC_0 d0_1241 rfl rfl
theorem d0_1242 : decode cL_law 1242 = .ok (.iaload, 1) := by decide +kernel
theorem k0_1242 {d : Nat} {l0 l1 l2 l3 : Option PV} {st : List PV} {M : Mem} {Q : Option PV → Mem → Prop} {r : Nat} {j : Int32} (hk : mK M r = 13) (hj : inb j (mN M r)) : WP d 0 1242 [l0, l1, l2, l3] (vi j :: vr r :: st) M Q = WP d 0 1243 [l0, l1, l2, l3] (vi (mI M r (ix j)) :: st) M Q := w_sld mC_0 d0_1242 hk hj
theorem d0_1243 : decode cL_law 1243 = .ok (.invokevirtual 157, 3) := by decide +kernel
theorem k0_1243 {d : Nat} {l0 l1 l2 l3 : Option PV} {st : List PV} {M : Mem} {Q : Option PV → Mem → Prop} {a0 a1 a2 : Int32} {r : Nat} (hl : szL st ≤ 8) (hk : mK M r = 11) : WP (d + 1) 0 1243 [l0, l1, l2, l3] (vi a2 :: vi a1 :: vi a0 :: vr r :: st) M Q = WP d 133 0 [some (vr r), some (vi a0), some (vi a1), some (vi a2)] [] M (fun v M' => WP (d + 1) 0 1246 [l0, l1, l2, l3] (psh v st) M' Q) := w_callV mC_0 d0_1243 (ci := 11) rfl rfl rfl (Nat.le_of_ble_eq_true rfl) (by decide) rfl hl hk
theorem d0_1246 : decode cL_law 1246 = .ok (.aload_n 2, 1) := by decide +kernel
theorem k0_1246 {d x : Nat} {l0 l1 l3 : Option PV} {st : List PV} {M : Mem} {Q : Option PV → Mem → Prop} : WP d 0 1246 [l0, l1, some (vr x), l3] (st) M Q = WP d 0 1247 [l0, l1, some (vr x), l3] (vr x :: st) M Q := w1 mC_0 d0_1246 rfl rfl
theorem d0_1247 : decode cL_law 1247 = .ok (.aload_n 0, 1) := by decide +kernel
theorem k0_1247 {d x : Nat} {l1 l2 l3 : Option PV} {st : List PV} {M : Mem} {Q : Option PV → Mem → Prop} : WP d 0 1247 [some (vr x), l1, l2, l3] (st) M Q = WP d 0 1248 [some (vr x), l1, l2, l3] (vr x :: st) M Q := w1 mC_0 d0_1247 rfl rfl
theorem d0_1248 : decode cL_law 1248 = .ok (.iload_n 3, 1) := by decide +kernel
theorem k0_1248 {d : Nat} {x : Int32} {l0 l1 l2 : Option PV} {st : List PV} {M : Mem} {Q : Option PV → Mem → Prop} : WP d 0 1248 [l0, l1, l2, some (vi x)] (st) M Q = WP d 0 1249 [l0, l1, l2, some (vi x)] (vi x :: st) M Q := w1 mC_0 d0_1248 rfl rfl
theorem d0_1249 : decode cL_law 1249 = .ok (.iconst 1, 1) := by decide +kernel
theorem k0_1249 {d : Nat} {l0 l1 l2 l3 : Option PV} {st : List PV} {M : Mem} {Q : Option PV → Mem → Prop} : WP d 0 1249 [l0, l1, l2, l3] (st) M Q = WP d 0 1250 [l0, l1, l2, l3] (vi 1 :: st) M Q := w_iconst mC_0 d0_1249 (by decide)
theorem d0_1250 : decode cL_law 1250 = .ok (.iadd, 1) := by decide +kernel
theorem k0_1250 {d : Nat} {l0 l1 l2 l3 : Option PV} {st : List PV} {M : Mem} {Q : Option PV → Mem → Prop} {x y : Int32} : WP d 0 1250 [l0, l1, l2, l3] (vi y :: vi x :: st) M Q = WP d 0 1251 [l0, l1, l2, l3] (vi (x + y) :: st) M Q := w1 mC_0 d0_1250 rfl rfl
theorem d0_1251 : decode cL_law 1251 = .ok (.iaload, 1) := by decide +kernel
theorem k0_1251 {d : Nat} {l0 l1 l2 l3 : Option PV} {st : List PV} {M : Mem} {Q : Option PV → Mem → Prop} {r : Nat} {j : Int32} (hk : mK M r = 13) (hj : inb j (mN M r)) : WP d 0 1251 [l0, l1, l2, l3] (vi j :: vr r :: st) M Q = WP d 0 1252 [l0, l1, l2, l3] (vi (mI M r (ix j)) :: st) M Q := w_sld mC_0 d0_1251 hk hj
theorem d0_1252 : decode cL_law 1252 = .ok (.aload_n 0, 1) := by decide +kernel
theorem k0_1252 {d x : Nat} {l1 l2 l3 : Option PV} {st : List PV} {M : Mem} {Q : Option PV → Mem → Prop} : WP d 0 1252 [some (vr x), l1, l2, l3] (st) M Q = WP d 0 1253 [some (vr x), l1, l2, l3] (vr x :: st) M Q := w1 mC_0 d0_1252 rfl rfl
theorem d0_1253 : decode cL_law 1253 = .ok (.iload_n 3, 1) := by decide +kernel
theorem k0_1253 {d : Nat} {x : Int32} {l0 l1 l2 : Option PV} {st : List PV} {M : Mem} {Q : Option PV → Mem → Prop} : WP d 0 1253 [l0, l1, l2, some (vi x)] (st) M Q = WP d 0 1254 [l0, l1, l2, some (vi x)] (vi x :: st) M Q := w1 mC_0 d0_1253 rfl rfl
theorem d0_1254 : decode cL_law 1254 = .ok (.iconst 2, 1) := by decide +kernel
theorem k0_1254 {d : Nat} {l0 l1 l2 l3 : Option PV} {st : List PV} {M : Mem} {Q : Option PV → Mem → Prop} : WP d 0 1254 [l0, l1, l2, l3] (st) M Q = WP d 0 1255 [l0, l1, l2, l3] (vi 2 :: st) M Q := w_iconst mC_0 d0_1254 (by decide)
theorem d0_1255 : decode cL_law 1255 = .ok (.iadd, 1) := by decide +kernel
theorem k0_1255 {d : Nat} {l0 l1 l2 l3 : Option PV} {st : List PV} {M : Mem} {Q : Option PV → Mem → Prop} {x y : Int32} : WP d 0 1255 [l0, l1, l2, l3] (vi y :: vi x :: st) M Q = WP d 0 1256 [l0, l1, l2, l3] (vi (x + y) :: st) M Q := w1 mC_0 d0_1255 rfl rfl
theorem d0_1256 : decode cL_law 1256 = .ok (.iaload, 1) := by decide +kernel
theorem k0_1256 {d : Nat} {l0 l1 l2 l3 : Option PV} {st : List PV} {M : Mem} {Q : Option PV → Mem → Prop} {r : Nat} {j : Int32} (hk : mK M r = 13) (hj : inb j (mN M r)) : WP d 0 1256 [l0, l1, l2, l3] (vi j :: vr r :: st) M Q = WP d 0 1257 [l0, l1, l2, l3] (vi (mI M r (ix j)) :: st) M Q := w_sld mC_0 d0_1256 hk hj
theorem d0_1257 : decode cL_law 1257 = .ok (.aload_n 0, 1) := by decide +kernel
theorem k0_1257 {d x : Nat} {l1 l2 l3 : Option PV} {st : List PV} {M : Mem} {Q : Option PV → Mem → Prop} : WP d 0 1257 [some (vr x), l1, l2, l3] (st) M Q = WP d 0 1258 [some (vr x), l1, l2, l3] (vr x :: st) M Q := w1 mC_0 d0_1257 rfl rfl
theorem d0_1258 : decode cL_law 1258 = .ok (.iload_n 3, 1) := by decide +kernel
theorem k0_1258 {d : Nat} {x : Int32} {l0 l1 l2 : Option PV} {st : List PV} {M : Mem} {Q : Option PV → Mem → Prop} : WP d 0 1258 [l0, l1, l2, some (vi x)] (st) M Q = WP d 0 1259 [l0, l1, l2, some (vi x)] (vi x :: st) M Q := w1 mC_0 d0_1258 rfl rfl
theorem d0_1259 : decode cL_law 1259 = .ok (.iconst 3, 1) := by decide +kernel
theorem k0_1259 {d : Nat} {l0 l1 l2 l3 : Option PV} {st : List PV} {M : Mem} {Q : Option PV → Mem → Prop} : WP d 0 1259 [l0, l1, l2, l3] (st) M Q = WP d 0 1260 [l0, l1, l2, l3] (vi 3 :: st) M Q := w_iconst mC_0 d0_1259 (by decide)
theorem d0_1260 : decode cL_law 1260 = .ok (.iadd, 1) := by decide +kernel
theorem k0_1260 {d : Nat} {l0 l1 l2 l3 : Option PV} {st : List PV} {M : Mem} {Q : Option PV → Mem → Prop} {x y : Int32} : WP d 0 1260 [l0, l1, l2, l3] (vi y :: vi x :: st) M Q = WP d 0 1261 [l0, l1, l2, l3] (vi (x + y) :: st) M Q := w1 mC_0 d0_1260 rfl rfl
theorem d0_1261 : decode cL_law 1261 = .ok (.iaload, 1) := by decide +kernel
theorem k0_1261 {d : Nat} {l0 l1 l2 l3 : Option PV} {st : List PV} {M : Mem} {Q : Option PV → Mem → Prop} {r : Nat} {j : Int32} (hk : mK M r = 13) (hj : inb j (mN M r)) : WP d 0 1261 [l0, l1, l2, l3] (vi j :: vr r :: st) M Q = WP d 0 1262 [l0, l1, l2, l3] (vi (mI M r (ix j)) :: st) M Q := w_sld mC_0 d0_1261 hk hj
theorem d0_1262 : decode cL_law 1262 = .ok (.invokevirtual 160, 3) := by decide +kernel
theorem k0_1262 {d : Nat} {l0 l1 l2 l3 : Option PV} {st : List PV} {M : Mem} {Q : Option PV → Mem → Prop} {a0 a1 a2 : Int32} {r : Nat} (hl : szL st ≤ 8) (hk : mK M r = 12) : WP (d + 1) 0 1262 [l0, l1, l2, l3] (vi a2 :: vi a1 :: vi a0 :: vr r :: st) M Q = WP d 238 0 [some (vr r), some (vi a0), some (vi a1), some (vi a2), none] [] M (fun v M' => WP (d + 1) 0 1265 [l0, l1, l2, l3] (psh v st) M' Q) := w_callV mC_0 d0_1262 (ci := 12) rfl rfl rfl (Nat.le_of_ble_eq_true rfl) (by decide) rfl hl hk
theorem d0_1265 : decode cL_law 1265 = .ok (.if_icmp .eq 231, 3) := by decide +kernel
theorem k0_1265 {d : Nat} {l0 l1 l2 l3 : Option PV} {st : List PV} {M : Mem} {Q : Option PV → Mem → Prop} {x y : Int32} : WP d 0 1265 [l0, l1, l2, l3] (vi y :: vi x :: st) M Q = (if x = y then WP d 0 1496 [l0, l1, l2, l3] (st) M Q else WP d 0 1268 [l0, l1, l2, l3] (st) M Q) := w_ic_eq mC_0 d0_1265 (by decide)
theorem d0_1268 : decode cL_law 1268 = .ok (.iconst 0, 1) := by decide +kernel
theorem k0_1268 {d : Nat} {l0 l1 l2 l3 : Option PV} {st : List PV} {M : Mem} {Q : Option PV → Mem → Prop} : WP d 0 1268 [l0, l1, l2, l3] (st) M Q = WP d 0 1269 [l0, l1, l2, l3] (vi 0 :: st) M Q := w_iconst mC_0 d0_1268 (by decide)
theorem d0_1269 : decode cL_law 1269 = .ok (.ireturn, 1) := by decide +kernel
theorem k0_1269 {d : Nat} {l0 l1 l2 l3 : Option PV} {M : Mem} {Q : Option PV → Mem → Prop} {x : Int32} (hx : x = 0 ∨ x = 1) : WP d 0 1269 [l0, l1, l2, l3] ([vi x]) M Q = Q (some (vi x)) M := w_zret mC_0 d0_1269 rfl hx
theorem d0_1270 : decode cL_law 1270 = .ok (.aload_n 1, 1) := by decide +kernel
theorem k0_1270 {d x : Nat} {l0 l2 l3 : Option PV} {st : List PV} {M : Mem} {Q : Option PV → Mem → Prop} : WP d 0 1270 [l0, some (vr x), l2, l3] (st) M Q = WP d 0 1271 [l0, some (vr x), l2, l3] (vr x :: st) M Q := w1 mC_0 d0_1270 rfl rfl
theorem d0_1271 : decode cL_law 1271 = .ok (.aload_n 0, 1) := by decide +kernel
theorem k0_1271 {d x : Nat} {l1 l2 l3 : Option PV} {st : List PV} {M : Mem} {Q : Option PV → Mem → Prop} : WP d 0 1271 [some (vr x), l1, l2, l3] (st) M Q = WP d 0 1272 [some (vr x), l1, l2, l3] (vr x :: st) M Q := w1 mC_0 d0_1271 rfl rfl
theorem d0_1272 : decode cL_law 1272 = .ok (.iload_n 3, 1) := by decide +kernel
theorem k0_1272 {d : Nat} {x : Int32} {l0 l1 l2 : Option PV} {st : List PV} {M : Mem} {Q : Option PV → Mem → Prop} : WP d 0 1272 [l0, l1, l2, some (vi x)] (st) M Q = WP d 0 1273 [l0, l1, l2, some (vi x)] (vi x :: st) M Q := w1 mC_0 d0_1272 rfl rfl
theorem d0_1273 : decode cL_law 1273 = .ok (.iconst 1, 1) := by decide +kernel
theorem k0_1273 {d : Nat} {l0 l1 l2 l3 : Option PV} {st : List PV} {M : Mem} {Q : Option PV → Mem → Prop} : WP d 0 1273 [l0, l1, l2, l3] (st) M Q = WP d 0 1274 [l0, l1, l2, l3] (vi 1 :: st) M Q := w_iconst mC_0 d0_1273 (by decide)
theorem d0_1274 : decode cL_law 1274 = .ok (.iadd, 1) := by decide +kernel
theorem k0_1274 {d : Nat} {l0 l1 l2 l3 : Option PV} {st : List PV} {M : Mem} {Q : Option PV → Mem → Prop} {x y : Int32} : WP d 0 1274 [l0, l1, l2, l3] (vi y :: vi x :: st) M Q = WP d 0 1275 [l0, l1, l2, l3] (vi (x + y) :: st) M Q := w1 mC_0 d0_1274 rfl rfl
theorem d0_1275 : decode cL_law 1275 = .ok (.iaload, 1) := by decide +kernel
theorem k0_1275 {d : Nat} {l0 l1 l2 l3 : Option PV} {st : List PV} {M : Mem} {Q : Option PV → Mem → Prop} {r : Nat} {j : Int32} (hk : mK M r = 13) (hj : inb j (mN M r)) : WP d 0 1275 [l0, l1, l2, l3] (vi j :: vr r :: st) M Q = WP d 0 1276 [l0, l1, l2, l3] (vi (mI M r (ix j)) :: st) M Q := w_sld mC_0 d0_1275 hk hj
theorem d0_1276 : decode cL_law 1276 = .ok (.aload_n 0, 1) := by decide +kernel
theorem k0_1276 {d x : Nat} {l1 l2 l3 : Option PV} {st : List PV} {M : Mem} {Q : Option PV → Mem → Prop} : WP d 0 1276 [some (vr x), l1, l2, l3] (st) M Q = WP d 0 1277 [some (vr x), l1, l2, l3] (vr x :: st) M Q := w1 mC_0 d0_1276 rfl rfl
theorem d0_1277 : decode cL_law 1277 = .ok (.iload_n 3, 1) := by decide +kernel
theorem k0_1277 {d : Nat} {x : Int32} {l0 l1 l2 : Option PV} {st : List PV} {M : Mem} {Q : Option PV → Mem → Prop} : WP d 0 1277 [l0, l1, l2, some (vi x)] (st) M Q = WP d 0 1278 [l0, l1, l2, some (vi x)] (vi x :: st) M Q := w1 mC_0 d0_1277 rfl rfl
theorem d0_1278 : decode cL_law 1278 = .ok (.iconst 2, 1) := by decide +kernel
theorem k0_1278 {d : Nat} {l0 l1 l2 l3 : Option PV} {st : List PV} {M : Mem} {Q : Option PV → Mem → Prop} : WP d 0 1278 [l0, l1, l2, l3] (st) M Q = WP d 0 1279 [l0, l1, l2, l3] (vi 2 :: st) M Q := w_iconst mC_0 d0_1278 (by decide)
theorem d0_1279 : decode cL_law 1279 = .ok (.iadd, 1) := by decide +kernel
theorem k0_1279 {d : Nat} {l0 l1 l2 l3 : Option PV} {st : List PV} {M : Mem} {Q : Option PV → Mem → Prop} {x y : Int32} : WP d 0 1279 [l0, l1, l2, l3] (vi y :: vi x :: st) M Q = WP d 0 1280 [l0, l1, l2, l3] (vi (x + y) :: st) M Q := w1 mC_0 d0_1279 rfl rfl
theorem d0_1280 : decode cL_law 1280 = .ok (.iaload, 1) := by decide +kernel
theorem k0_1280 {d : Nat} {l0 l1 l2 l3 : Option PV} {st : List PV} {M : Mem} {Q : Option PV → Mem → Prop} {r : Nat} {j : Int32} (hk : mK M r = 13) (hj : inb j (mN M r)) : WP d 0 1280 [l0, l1, l2, l3] (vi j :: vr r :: st) M Q = WP d 0 1281 [l0, l1, l2, l3] (vi (mI M r (ix j)) :: st) M Q := w_sld mC_0 d0_1280 hk hj
theorem d0_1281 : decode cL_law 1281 = .ok (.aload_n 0, 1) := by decide +kernel
theorem k0_1281 {d x : Nat} {l1 l2 l3 : Option PV} {st : List PV} {M : Mem} {Q : Option PV → Mem → Prop} : WP d 0 1281 [some (vr x), l1, l2, l3] (st) M Q = WP d 0 1282 [some (vr x), l1, l2, l3] (vr x :: st) M Q := w1 mC_0 d0_1281 rfl rfl
theorem d0_1282 : decode cL_law 1282 = .ok (.iload_n 3, 1) := by decide +kernel
theorem k0_1282 {d : Nat} {x : Int32} {l0 l1 l2 : Option PV} {st : List PV} {M : Mem} {Q : Option PV → Mem → Prop} : WP d 0 1282 [l0, l1, l2, some (vi x)] (st) M Q = WP d 0 1283 [l0, l1, l2, some (vi x)] (vi x :: st) M Q := w1 mC_0 d0_1282 rfl rfl
theorem d0_1283 : decode cL_law 1283 = .ok (.iconst 3, 1) := by decide +kernel
theorem k0_1283 {d : Nat} {l0 l1 l2 l3 : Option PV} {st : List PV} {M : Mem} {Q : Option PV → Mem → Prop} : WP d 0 1283 [l0, l1, l2, l3] (st) M Q = WP d 0 1284 [l0, l1, l2, l3] (vi 3 :: st) M Q := w_iconst mC_0 d0_1283 (by decide)
theorem d0_1284 : decode cL_law 1284 = .ok (.iadd, 1) := by decide +kernel
theorem k0_1284 {d : Nat} {l0 l1 l2 l3 : Option PV} {st : List PV} {M : Mem} {Q : Option PV → Mem → Prop} {x y : Int32} : WP d 0 1284 [l0, l1, l2, l3] (vi y :: vi x :: st) M Q = WP d 0 1285 [l0, l1, l2, l3] (vi (x + y) :: st) M Q := w1 mC_0 d0_1284 rfl rfl
theorem d0_1285 : decode cL_law 1285 = .ok (.iaload, 1) := by decide +kernel
theorem k0_1285 {d : Nat} {l0 l1 l2 l3 : Option PV} {st : List PV} {M : Mem} {Q : Option PV → Mem → Prop} {r : Nat} {j : Int32} (hk : mK M r = 13) (hj : inb j (mN M r)) : WP d 0 1285 [l0, l1, l2, l3] (vi j :: vr r :: st) M Q = WP d 0 1286 [l0, l1, l2, l3] (vi (mI M r (ix j)) :: st) M Q := w_sld mC_0 d0_1285 hk hj
theorem d0_1286 : decode cL_law 1286 = .ok (.i2l, 1) := by decide +kernel
theorem k0_1286 {d : Nat} {l0 l1 l2 l3 : Option PV} {st : List PV} {M : Mem} {Q : Option PV → Mem → Prop} {x : Int32} : WP d 0 1286 [l0, l1, l2, l3] (vi x :: st) M Q = WP d 0 1287 [l0, l1, l2, l3] (vl x.toInt64 :: st) M Q := w1 mC_0 d0_1286 rfl rfl
theorem d0_1287 : decode cL_law 1287 = .ok (.bipush 32, 2) := by decide +kernel
theorem k0_1287 {d : Nat} {l0 l1 l2 l3 : Option PV} {st : List PV} {M : Mem} {Q : Option PV → Mem → Prop} : WP d 0 1287 [l0, l1, l2, l3] (st) M Q = WP d 0 1289 [l0, l1, l2, l3] (vi 32 :: st) M Q := w_bipush mC_0 d0_1287 (by decide)
theorem d0_1289 : decode cL_law 1289 = .ok (.lshl, 1) := by decide +kernel
theorem k0_1289 {d : Nat} {l0 l1 l2 l3 : Option PV} {st : List PV} {M : Mem} {Q : Option PV → Mem → Prop} {x : Int64} {y : Int32} : WP d 0 1289 [l0, l1, l2, l3] (vi y :: vl x :: st) M Q = WP d 0 1290 [l0, l1, l2, l3] (vl (x <<< (y.toInt64 &&& 63)) :: st) M Q := w1 mC_0 d0_1289 rfl rfl
theorem d0_1290 : decode cL_law 1290 = .ok (.aload_n 0, 1) := by decide +kernel
theorem k0_1290 {d x : Nat} {l1 l2 l3 : Option PV} {st : List PV} {M : Mem} {Q : Option PV → Mem → Prop} : WP d 0 1290 [some (vr x), l1, l2, l3] (st) M Q = WP d 0 1291 [some (vr x), l1, l2, l3] (vr x :: st) M Q := w1 mC_0 d0_1290 rfl rfl
theorem d0_1291 : decode cL_law 1291 = .ok (.iload_n 3, 1) := by decide +kernel
theorem k0_1291 {d : Nat} {x : Int32} {l0 l1 l2 : Option PV} {st : List PV} {M : Mem} {Q : Option PV → Mem → Prop} : WP d 0 1291 [l0, l1, l2, some (vi x)] (st) M Q = WP d 0 1292 [l0, l1, l2, some (vi x)] (vi x :: st) M Q := w1 mC_0 d0_1291 rfl rfl
theorem d0_1292 : decode cL_law 1292 = .ok (.iconst 4, 1) := by decide +kernel
theorem k0_1292 {d : Nat} {l0 l1 l2 l3 : Option PV} {st : List PV} {M : Mem} {Q : Option PV → Mem → Prop} : WP d 0 1292 [l0, l1, l2, l3] (st) M Q = WP d 0 1293 [l0, l1, l2, l3] (vi 4 :: st) M Q := w_iconst mC_0 d0_1292 (by decide)
theorem d0_1293 : decode cL_law 1293 = .ok (.iadd, 1) := by decide +kernel
theorem k0_1293 {d : Nat} {l0 l1 l2 l3 : Option PV} {st : List PV} {M : Mem} {Q : Option PV → Mem → Prop} {x y : Int32} : WP d 0 1293 [l0, l1, l2, l3] (vi y :: vi x :: st) M Q = WP d 0 1294 [l0, l1, l2, l3] (vi (x + y) :: st) M Q := w1 mC_0 d0_1293 rfl rfl
theorem d0_1294 : decode cL_law 1294 = .ok (.iaload, 1) := by decide +kernel
theorem k0_1294 {d : Nat} {l0 l1 l2 l3 : Option PV} {st : List PV} {M : Mem} {Q : Option PV → Mem → Prop} {r : Nat} {j : Int32} (hk : mK M r = 13) (hj : inb j (mN M r)) : WP d 0 1294 [l0, l1, l2, l3] (vi j :: vr r :: st) M Q = WP d 0 1295 [l0, l1, l2, l3] (vi (mI M r (ix j)) :: st) M Q := w_sld mC_0 d0_1294 hk hj
theorem d0_1295 : decode cL_law 1295 = .ok (.i2l, 1) := by decide +kernel
theorem k0_1295 {d : Nat} {l0 l1 l2 l3 : Option PV} {st : List PV} {M : Mem} {Q : Option PV → Mem → Prop} {x : Int32} : WP d 0 1295 [l0, l1, l2, l3] (vi x :: st) M Q = WP d 0 1296 [l0, l1, l2, l3] (vl x.toInt64 :: st) M Q := w1 mC_0 d0_1295 rfl rfl
theorem d0_1296 : decode cL_law 1296 = .ok (.ldc2_w 161, 3) := by decide +kernel
theorem k0_1296 {d : Nat} {l0 l1 l2 l3 : Option PV} {st : List PV} {M : Mem} {Q : Option PV → Mem → Prop} : WP d 0 1296 [l0, l1, l2, l3] (st) M Q = WP d 0 1299 [l0, l1, l2, l3] (vl 4294967295 :: st) M Q := w_ldl mC_0 d0_1296 rfl
theorem d0_1299 : decode cL_law 1299 = .ok (.land, 1) := by decide +kernel
theorem k0_1299 {d : Nat} {l0 l1 l2 l3 : Option PV} {st : List PV} {M : Mem} {Q : Option PV → Mem → Prop} {x y : Int64} : WP d 0 1299 [l0, l1, l2, l3] (vl y :: vl x :: st) M Q = WP d 0 1300 [l0, l1, l2, l3] (vl (x &&& y) :: st) M Q := w1 mC_0 d0_1299 rfl rfl
theorem d0_1300 : decode cL_law 1300 = .ok (.lor, 1) := by decide +kernel
theorem k0_1300 {d : Nat} {l0 l1 l2 l3 : Option PV} {st : List PV} {M : Mem} {Q : Option PV → Mem → Prop} {x y : Int64} : WP d 0 1300 [l0, l1, l2, l3] (vl y :: vl x :: st) M Q = WP d 0 1301 [l0, l1, l2, l3] (vl (x ||| y) :: st) M Q := w1 mC_0 d0_1300 rfl rfl
theorem d0_1301 : decode cL_law 1301 = .ok (.invokevirtual 163, 3) := by decide +kernel
theorem k0_1301 {d : Nat} {l0 l1 l2 l3 : Option PV} {st : List PV} {M : Mem} {Q : Option PV → Mem → Prop} {a0 a1 : Int32} {a2 : Int64} {r : Nat} (hl : szL st ≤ 8) (hk : mK M r = 11) : WP (d + 1) 0 1301 [l0, l1, l2, l3] (vl a2 :: vi a1 :: vi a0 :: vr r :: st) M Q = WP d 134 0 [some (vr r), some (vi a0), some (vi a1), some (vl a2), none, none] [] M (fun v M' => WP (d + 1) 0 1304 [l0, l1, l2, l3] (psh v st) M' Q) := w_callV mC_0 d0_1301 (ci := 11) rfl rfl rfl (Nat.le_of_ble_eq_true rfl) (by decide) rfl hl hk
theorem d0_1304 : decode cL_law 1304 = .ok (.aload_n 2, 1) := by decide +kernel
theorem k0_1304 {d x : Nat} {l0 l1 l3 : Option PV} {st : List PV} {M : Mem} {Q : Option PV → Mem → Prop} : WP d 0 1304 [l0, l1, some (vr x), l3] (st) M Q = WP d 0 1305 [l0, l1, some (vr x), l3] (vr x :: st) M Q := w1 mC_0 d0_1304 rfl rfl
theorem d0_1305 : decode cL_law 1305 = .ok (.aload_n 0, 1) := by decide +kernel
theorem k0_1305 {d x : Nat} {l1 l2 l3 : Option PV} {st : List PV} {M : Mem} {Q : Option PV → Mem → Prop} : WP d 0 1305 [some (vr x), l1, l2, l3] (st) M Q = WP d 0 1306 [some (vr x), l1, l2, l3] (vr x :: st) M Q := w1 mC_0 d0_1305 rfl rfl
theorem d0_1306 : decode cL_law 1306 = .ok (.iload_n 3, 1) := by decide +kernel
theorem k0_1306 {d : Nat} {x : Int32} {l0 l1 l2 : Option PV} {st : List PV} {M : Mem} {Q : Option PV → Mem → Prop} : WP d 0 1306 [l0, l1, l2, some (vi x)] (st) M Q = WP d 0 1307 [l0, l1, l2, some (vi x)] (vi x :: st) M Q := w1 mC_0 d0_1306 rfl rfl
theorem d0_1307 : decode cL_law 1307 = .ok (.iconst 1, 1) := by decide +kernel
theorem k0_1307 {d : Nat} {l0 l1 l2 l3 : Option PV} {st : List PV} {M : Mem} {Q : Option PV → Mem → Prop} : WP d 0 1307 [l0, l1, l2, l3] (st) M Q = WP d 0 1308 [l0, l1, l2, l3] (vi 1 :: st) M Q := w_iconst mC_0 d0_1307 (by decide)
theorem d0_1308 : decode cL_law 1308 = .ok (.iadd, 1) := by decide +kernel
theorem k0_1308 {d : Nat} {l0 l1 l2 l3 : Option PV} {st : List PV} {M : Mem} {Q : Option PV → Mem → Prop} {x y : Int32} : WP d 0 1308 [l0, l1, l2, l3] (vi y :: vi x :: st) M Q = WP d 0 1309 [l0, l1, l2, l3] (vi (x + y) :: st) M Q := w1 mC_0 d0_1308 rfl rfl
theorem d0_1309 : decode cL_law 1309 = .ok (.iaload, 1) := by decide +kernel
theorem k0_1309 {d : Nat} {l0 l1 l2 l3 : Option PV} {st : List PV} {M : Mem} {Q : Option PV → Mem → Prop} {r : Nat} {j : Int32} (hk : mK M r = 13) (hj : inb j (mN M r)) : WP d 0 1309 [l0, l1, l2, l3] (vi j :: vr r :: st) M Q = WP d 0 1310 [l0, l1, l2, l3] (vi (mI M r (ix j)) :: st) M Q := w_sld mC_0 d0_1309 hk hj
theorem d0_1310 : decode cL_law 1310 = .ok (.aload_n 0, 1) := by decide +kernel
theorem k0_1310 {d x : Nat} {l1 l2 l3 : Option PV} {st : List PV} {M : Mem} {Q : Option PV → Mem → Prop} : WP d 0 1310 [some (vr x), l1, l2, l3] (st) M Q = WP d 0 1311 [some (vr x), l1, l2, l3] (vr x :: st) M Q := w1 mC_0 d0_1310 rfl rfl
theorem d0_1311 : decode cL_law 1311 = .ok (.iload_n 3, 1) := by decide +kernel
theorem k0_1311 {d : Nat} {x : Int32} {l0 l1 l2 : Option PV} {st : List PV} {M : Mem} {Q : Option PV → Mem → Prop} : WP d 0 1311 [l0, l1, l2, some (vi x)] (st) M Q = WP d 0 1312 [l0, l1, l2, some (vi x)] (vi x :: st) M Q := w1 mC_0 d0_1311 rfl rfl
theorem d0_1312 : decode cL_law 1312 = .ok (.iconst 2, 1) := by decide +kernel
theorem k0_1312 {d : Nat} {l0 l1 l2 l3 : Option PV} {st : List PV} {M : Mem} {Q : Option PV → Mem → Prop} : WP d 0 1312 [l0, l1, l2, l3] (st) M Q = WP d 0 1313 [l0, l1, l2, l3] (vi 2 :: st) M Q := w_iconst mC_0 d0_1312 (by decide)
theorem d0_1313 : decode cL_law 1313 = .ok (.iadd, 1) := by decide +kernel
theorem k0_1313 {d : Nat} {l0 l1 l2 l3 : Option PV} {st : List PV} {M : Mem} {Q : Option PV → Mem → Prop} {x y : Int32} : WP d 0 1313 [l0, l1, l2, l3] (vi y :: vi x :: st) M Q = WP d 0 1314 [l0, l1, l2, l3] (vi (x + y) :: st) M Q := w1 mC_0 d0_1313 rfl rfl
theorem d0_1314 : decode cL_law 1314 = .ok (.iaload, 1) := by decide +kernel
theorem k0_1314 {d : Nat} {l0 l1 l2 l3 : Option PV} {st : List PV} {M : Mem} {Q : Option PV → Mem → Prop} {r : Nat} {j : Int32} (hk : mK M r = 13) (hj : inb j (mN M r)) : WP d 0 1314 [l0, l1, l2, l3] (vi j :: vr r :: st) M Q = WP d 0 1315 [l0, l1, l2, l3] (vi (mI M r (ix j)) :: st) M Q := w_sld mC_0 d0_1314 hk hj
theorem d0_1315 : decode cL_law 1315 = .ok (.aload_n 0, 1) := by decide +kernel
theorem k0_1315 {d x : Nat} {l1 l2 l3 : Option PV} {st : List PV} {M : Mem} {Q : Option PV → Mem → Prop} : WP d 0 1315 [some (vr x), l1, l2, l3] (st) M Q = WP d 0 1316 [some (vr x), l1, l2, l3] (vr x :: st) M Q := w1 mC_0 d0_1315 rfl rfl
theorem d0_1316 : decode cL_law 1316 = .ok (.iload_n 3, 1) := by decide +kernel
theorem k0_1316 {d : Nat} {x : Int32} {l0 l1 l2 : Option PV} {st : List PV} {M : Mem} {Q : Option PV → Mem → Prop} : WP d 0 1316 [l0, l1, l2, some (vi x)] (st) M Q = WP d 0 1317 [l0, l1, l2, some (vi x)] (vi x :: st) M Q := w1 mC_0 d0_1316 rfl rfl
theorem d0_1317 : decode cL_law 1317 = .ok (.iconst 3, 1) := by decide +kernel
theorem k0_1317 {d : Nat} {l0 l1 l2 l3 : Option PV} {st : List PV} {M : Mem} {Q : Option PV → Mem → Prop} : WP d 0 1317 [l0, l1, l2, l3] (st) M Q = WP d 0 1318 [l0, l1, l2, l3] (vi 3 :: st) M Q := w_iconst mC_0 d0_1317 (by decide)
theorem d0_1318 : decode cL_law 1318 = .ok (.iadd, 1) := by decide +kernel
theorem k0_1318 {d : Nat} {l0 l1 l2 l3 : Option PV} {st : List PV} {M : Mem} {Q : Option PV → Mem → Prop} {x y : Int32} : WP d 0 1318 [l0, l1, l2, l3] (vi y :: vi x :: st) M Q = WP d 0 1319 [l0, l1, l2, l3] (vi (x + y) :: st) M Q := w1 mC_0 d0_1318 rfl rfl
theorem d0_1319 : decode cL_law 1319 = .ok (.iaload, 1) := by decide +kernel
theorem k0_1319 {d : Nat} {l0 l1 l2 l3 : Option PV} {st : List PV} {M : Mem} {Q : Option PV → Mem → Prop} {r : Nat} {j : Int32} (hk : mK M r = 13) (hj : inb j (mN M r)) : WP d 0 1319 [l0, l1, l2, l3] (vi j :: vr r :: st) M Q = WP d 0 1320 [l0, l1, l2, l3] (vi (mI M r (ix j)) :: st) M Q := w_sld mC_0 d0_1319 hk hj
theorem d0_1320 : decode cL_law 1320 = .ok (.i2l, 1) := by decide +kernel
theorem k0_1320 {d : Nat} {l0 l1 l2 l3 : Option PV} {st : List PV} {M : Mem} {Q : Option PV → Mem → Prop} {x : Int32} : WP d 0 1320 [l0, l1, l2, l3] (vi x :: st) M Q = WP d 0 1321 [l0, l1, l2, l3] (vl x.toInt64 :: st) M Q := w1 mC_0 d0_1320 rfl rfl
theorem d0_1321 : decode cL_law 1321 = .ok (.bipush 32, 2) := by decide +kernel
theorem k0_1321 {d : Nat} {l0 l1 l2 l3 : Option PV} {st : List PV} {M : Mem} {Q : Option PV → Mem → Prop} : WP d 0 1321 [l0, l1, l2, l3] (st) M Q = WP d 0 1323 [l0, l1, l2, l3] (vi 32 :: st) M Q := w_bipush mC_0 d0_1321 (by decide)
theorem d0_1323 : decode cL_law 1323 = .ok (.lshl, 1) := by decide +kernel
theorem k0_1323 {d : Nat} {l0 l1 l2 l3 : Option PV} {st : List PV} {M : Mem} {Q : Option PV → Mem → Prop} {x : Int64} {y : Int32} : WP d 0 1323 [l0, l1, l2, l3] (vi y :: vl x :: st) M Q = WP d 0 1324 [l0, l1, l2, l3] (vl (x <<< (y.toInt64 &&& 63)) :: st) M Q := w1 mC_0 d0_1323 rfl rfl
theorem d0_1324 : decode cL_law 1324 = .ok (.aload_n 0, 1) := by decide +kernel
theorem k0_1324 {d x : Nat} {l1 l2 l3 : Option PV} {st : List PV} {M : Mem} {Q : Option PV → Mem → Prop} : WP d 0 1324 [some (vr x), l1, l2, l3] (st) M Q = WP d 0 1325 [some (vr x), l1, l2, l3] (vr x :: st) M Q := w1 mC_0 d0_1324 rfl rfl
theorem d0_1325 : decode cL_law 1325 = .ok (.iload_n 3, 1) := by decide +kernel
theorem k0_1325 {d : Nat} {x : Int32} {l0 l1 l2 : Option PV} {st : List PV} {M : Mem} {Q : Option PV → Mem → Prop} : WP d 0 1325 [l0, l1, l2, some (vi x)] (st) M Q = WP d 0 1326 [l0, l1, l2, some (vi x)] (vi x :: st) M Q := w1 mC_0 d0_1325 rfl rfl
theorem d0_1326 : decode cL_law 1326 = .ok (.iconst 4, 1) := by decide +kernel
theorem k0_1326 {d : Nat} {l0 l1 l2 l3 : Option PV} {st : List PV} {M : Mem} {Q : Option PV → Mem → Prop} : WP d 0 1326 [l0, l1, l2, l3] (st) M Q = WP d 0 1327 [l0, l1, l2, l3] (vi 4 :: st) M Q := w_iconst mC_0 d0_1326 (by decide)
theorem d0_1327 : decode cL_law 1327 = .ok (.iadd, 1) := by decide +kernel
theorem k0_1327 {d : Nat} {l0 l1 l2 l3 : Option PV} {st : List PV} {M : Mem} {Q : Option PV → Mem → Prop} {x y : Int32} : WP d 0 1327 [l0, l1, l2, l3] (vi y :: vi x :: st) M Q = WP d 0 1328 [l0, l1, l2, l3] (vi (x + y) :: st) M Q := w1 mC_0 d0_1327 rfl rfl
theorem d0_1328 : decode cL_law 1328 = .ok (.iaload, 1) := by decide +kernel
theorem k0_1328 {d : Nat} {l0 l1 l2 l3 : Option PV} {st : List PV} {M : Mem} {Q : Option PV → Mem → Prop} {r : Nat} {j : Int32} (hk : mK M r = 13) (hj : inb j (mN M r)) : WP d 0 1328 [l0, l1, l2, l3] (vi j :: vr r :: st) M Q = WP d 0 1329 [l0, l1, l2, l3] (vi (mI M r (ix j)) :: st) M Q := w_sld mC_0 d0_1328 hk hj
theorem d0_1329 : decode cL_law 1329 = .ok (.i2l, 1) := by decide +kernel
theorem k0_1329 {d : Nat} {l0 l1 l2 l3 : Option PV} {st : List PV} {M : Mem} {Q : Option PV → Mem → Prop} {x : Int32} : WP d 0 1329 [l0, l1, l2, l3] (vi x :: st) M Q = WP d 0 1330 [l0, l1, l2, l3] (vl x.toInt64 :: st) M Q := w1 mC_0 d0_1329 rfl rfl
theorem d0_1330 : decode cL_law 1330 = .ok (.ldc2_w 161, 3) := by decide +kernel
theorem k0_1330 {d : Nat} {l0 l1 l2 l3 : Option PV} {st : List PV} {M : Mem} {Q : Option PV → Mem → Prop} : WP d 0 1330 [l0, l1, l2, l3] (st) M Q = WP d 0 1333 [l0, l1, l2, l3] (vl 4294967295 :: st) M Q := w_ldl mC_0 d0_1330 rfl
theorem d0_1333 : decode cL_law 1333 = .ok (.land, 1) := by decide +kernel
theorem k0_1333 {d : Nat} {l0 l1 l2 l3 : Option PV} {st : List PV} {M : Mem} {Q : Option PV → Mem → Prop} {x y : Int64} : WP d 0 1333 [l0, l1, l2, l3] (vl y :: vl x :: st) M Q = WP d 0 1334 [l0, l1, l2, l3] (vl (x &&& y) :: st) M Q := w1 mC_0 d0_1333 rfl rfl
theorem d0_1334 : decode cL_law 1334 = .ok (.lor, 1) := by decide +kernel
theorem k0_1334 {d : Nat} {l0 l1 l2 l3 : Option PV} {st : List PV} {M : Mem} {Q : Option PV → Mem → Prop} {x y : Int64} : WP d 0 1334 [l0, l1, l2, l3] (vl y :: vl x :: st) M Q = WP d 0 1335 [l0, l1, l2, l3] (vl (x ||| y) :: st) M Q := w1 mC_0 d0_1334 rfl rfl
theorem d0_1335 : decode cL_law 1335 = .ok (.invokevirtual 167, 3) := by decide +kernel
theorem k0_1335 {d : Nat} {l0 l1 l2 l3 : Option PV} {st : List PV} {M : Mem} {Q : Option PV → Mem → Prop} {a0 a1 : Int32} {a2 : Int64} {r : Nat} (hl : szL st ≤ 8) (hk : mK M r = 12) : WP (d + 1) 0 1335 [l0, l1, l2, l3] (vl a2 :: vi a1 :: vi a0 :: vr r :: st) M Q = WP d 241 0 [some (vr r), some (vi a0), some (vi a1), some (vl a2), none] [] M (fun v M' => WP (d + 1) 0 1338 [l0, l1, l2, l3] (psh v st) M' Q) := w_callV mC_0 d0_1335 (ci := 12) rfl rfl rfl (Nat.le_of_ble_eq_true rfl) (by decide) rfl hl hk
theorem d0_1338 : decode cL_law 1338 = .ok (.if_icmp .eq 158, 3) := by decide +kernel
theorem k0_1338 {d : Nat} {l0 l1 l2 l3 : Option PV} {st : List PV} {M : Mem} {Q : Option PV → Mem → Prop} {x y : Int32} : WP d 0 1338 [l0, l1, l2, l3] (vi y :: vi x :: st) M Q = (if x = y then WP d 0 1496 [l0, l1, l2, l3] (st) M Q else WP d 0 1341 [l0, l1, l2, l3] (st) M Q) := w_ic_eq mC_0 d0_1338 (by decide)
theorem d0_1341 : decode cL_law 1341 = .ok (.iconst 0, 1) := by decide +kernel
theorem k0_1341 {d : Nat} {l0 l1 l2 l3 : Option PV} {st : List PV} {M : Mem} {Q : Option PV → Mem → Prop} : WP d 0 1341 [l0, l1, l2, l3] (st) M Q = WP d 0 1342 [l0, l1, l2, l3] (vi 0 :: st) M Q := w_iconst mC_0 d0_1341 (by decide)
theorem d0_1342 : decode cL_law 1342 = .ok (.ireturn, 1) := by decide +kernel
theorem k0_1342 {d : Nat} {l0 l1 l2 l3 : Option PV} {M : Mem} {Q : Option PV → Mem → Prop} {x : Int32} (hx : x = 0 ∨ x = 1) : WP d 0 1342 [l0, l1, l2, l3] ([vi x]) M Q = Q (some (vi x)) M := w_zret mC_0 d0_1342 rfl hx
theorem d0_1343 : decode cL_law 1343 = .ok (.aload_n 1, 1) := by decide +kernel
theorem k0_1343 {d x : Nat} {l0 l2 l3 : Option PV} {st : List PV} {M : Mem} {Q : Option PV → Mem → Prop} : WP d 0 1343 [l0, some (vr x), l2, l3] (st) M Q = WP d 0 1344 [l0, some (vr x), l2, l3] (vr x :: st) M Q := w1 mC_0 d0_1343 rfl rfl
theorem d0_1344 : decode cL_law 1344 = .ok (.aload_n 0, 1) := by decide +kernel
theorem k0_1344 {d x : Nat} {l1 l2 l3 : Option PV} {st : List PV} {M : Mem} {Q : Option PV → Mem → Prop} : WP d 0 1344 [some (vr x), l1, l2, l3] (st) M Q = WP d 0 1345 [some (vr x), l1, l2, l3] (vr x :: st) M Q := w1 mC_0 d0_1344 rfl rfl
theorem d0_1345 : decode cL_law 1345 = .ok (.iload_n 3, 1) := by decide +kernel
theorem k0_1345 {d : Nat} {x : Int32} {l0 l1 l2 : Option PV} {st : List PV} {M : Mem} {Q : Option PV → Mem → Prop} : WP d 0 1345 [l0, l1, l2, some (vi x)] (st) M Q = WP d 0 1346 [l0, l1, l2, some (vi x)] (vi x :: st) M Q := w1 mC_0 d0_1345 rfl rfl
theorem d0_1346 : decode cL_law 1346 = .ok (.iconst 1, 1) := by decide +kernel
theorem k0_1346 {d : Nat} {l0 l1 l2 l3 : Option PV} {st : List PV} {M : Mem} {Q : Option PV → Mem → Prop} : WP d 0 1346 [l0, l1, l2, l3] (st) M Q = WP d 0 1347 [l0, l1, l2, l3] (vi 1 :: st) M Q := w_iconst mC_0 d0_1346 (by decide)
theorem d0_1347 : decode cL_law 1347 = .ok (.iadd, 1) := by decide +kernel
theorem k0_1347 {d : Nat} {l0 l1 l2 l3 : Option PV} {st : List PV} {M : Mem} {Q : Option PV → Mem → Prop} {x y : Int32} : WP d 0 1347 [l0, l1, l2, l3] (vi y :: vi x :: st) M Q = WP d 0 1348 [l0, l1, l2, l3] (vi (x + y) :: st) M Q := w1 mC_0 d0_1347 rfl rfl
theorem d0_1348 : decode cL_law 1348 = .ok (.iaload, 1) := by decide +kernel
theorem k0_1348 {d : Nat} {l0 l1 l2 l3 : Option PV} {st : List PV} {M : Mem} {Q : Option PV → Mem → Prop} {r : Nat} {j : Int32} (hk : mK M r = 13) (hj : inb j (mN M r)) : WP d 0 1348 [l0, l1, l2, l3] (vi j :: vr r :: st) M Q = WP d 0 1349 [l0, l1, l2, l3] (vi (mI M r (ix j)) :: st) M Q := w_sld mC_0 d0_1348 hk hj
theorem d0_1349 : decode cL_law 1349 = .ok (.aload_n 0, 1) := by decide +kernel
theorem k0_1349 {d x : Nat} {l1 l2 l3 : Option PV} {st : List PV} {M : Mem} {Q : Option PV → Mem → Prop} : WP d 0 1349 [some (vr x), l1, l2, l3] (st) M Q = WP d 0 1350 [some (vr x), l1, l2, l3] (vr x :: st) M Q := w1 mC_0 d0_1349 rfl rfl
theorem d0_1350 : decode cL_law 1350 = .ok (.iload_n 3, 1) := by decide +kernel
theorem k0_1350 {d : Nat} {x : Int32} {l0 l1 l2 : Option PV} {st : List PV} {M : Mem} {Q : Option PV → Mem → Prop} : WP d 0 1350 [l0, l1, l2, some (vi x)] (st) M Q = WP d 0 1351 [l0, l1, l2, some (vi x)] (vi x :: st) M Q := w1 mC_0 d0_1350 rfl rfl
theorem d0_1351 : decode cL_law 1351 = .ok (.iconst 2, 1) := by decide +kernel
theorem k0_1351 {d : Nat} {l0 l1 l2 l3 : Option PV} {st : List PV} {M : Mem} {Q : Option PV → Mem → Prop} : WP d 0 1351 [l0, l1, l2, l3] (st) M Q = WP d 0 1352 [l0, l1, l2, l3] (vi 2 :: st) M Q := w_iconst mC_0 d0_1351 (by decide)
theorem d0_1352 : decode cL_law 1352 = .ok (.iadd, 1) := by decide +kernel
theorem k0_1352 {d : Nat} {l0 l1 l2 l3 : Option PV} {st : List PV} {M : Mem} {Q : Option PV → Mem → Prop} {x y : Int32} : WP d 0 1352 [l0, l1, l2, l3] (vi y :: vi x :: st) M Q = WP d 0 1353 [l0, l1, l2, l3] (vi (x + y) :: st) M Q := w1 mC_0 d0_1352 rfl rfl
theorem d0_1353 : decode cL_law 1353 = .ok (.iaload, 1) := by decide +kernel
theorem k0_1353 {d : Nat} {l0 l1 l2 l3 : Option PV} {st : List PV} {M : Mem} {Q : Option PV → Mem → Prop} {r : Nat} {j : Int32} (hk : mK M r = 13) (hj : inb j (mN M r)) : WP d 0 1353 [l0, l1, l2, l3] (vi j :: vr r :: st) M Q = WP d 0 1354 [l0, l1, l2, l3] (vi (mI M r (ix j)) :: st) M Q := w_sld mC_0 d0_1353 hk hj
theorem d0_1354 : decode cL_law 1354 = .ok (.invokevirtual 168, 3) := by decide +kernel
theorem k0_1354 {d : Nat} {l0 l1 l2 l3 : Option PV} {st : List PV} {M : Mem} {Q : Option PV → Mem → Prop} {a0 a1 : Int32} {r : Nat} (hl : szL st ≤ 8) (hk : mK M r = 11) : WP (d + 1) 0 1354 [l0, l1, l2, l3] (vi a1 :: vi a0 :: vr r :: st) M Q = WP d 135 0 [some (vr r), some (vi a0), some (vi a1)] [] M (fun v M' => WP (d + 1) 0 1357 [l0, l1, l2, l3] (psh v st) M' Q) := w_callV mC_0 d0_1354 (ci := 11) rfl rfl rfl (Nat.le_of_ble_eq_true rfl) (by decide) rfl hl hk
theorem d0_1357 : decode cL_law 1357 = .ok (.aload_n 2, 1) := by decide +kernel
theorem k0_1357 {d x : Nat} {l0 l1 l3 : Option PV} {st : List PV} {M : Mem} {Q : Option PV → Mem → Prop} : WP d 0 1357 [l0, l1, some (vr x), l3] (st) M Q = WP d 0 1358 [l0, l1, some (vr x), l3] (vr x :: st) M Q := w1 mC_0 d0_1357 rfl rfl
theorem d0_1358 : decode cL_law 1358 = .ok (.aload_n 0, 1) := by decide +kernel
theorem k0_1358 {d x : Nat} {l1 l2 l3 : Option PV} {st : List PV} {M : Mem} {Q : Option PV → Mem → Prop} : WP d 0 1358 [some (vr x), l1, l2, l3] (st) M Q = WP d 0 1359 [some (vr x), l1, l2, l3] (vr x :: st) M Q := w1 mC_0 d0_1358 rfl rfl
theorem d0_1359 : decode cL_law 1359 = .ok (.iload_n 3, 1) := by decide +kernel
theorem k0_1359 {d : Nat} {x : Int32} {l0 l1 l2 : Option PV} {st : List PV} {M : Mem} {Q : Option PV → Mem → Prop} : WP d 0 1359 [l0, l1, l2, some (vi x)] (st) M Q = WP d 0 1360 [l0, l1, l2, some (vi x)] (vi x :: st) M Q := w1 mC_0 d0_1359 rfl rfl
theorem d0_1360 : decode cL_law 1360 = .ok (.iconst 1, 1) := by decide +kernel
theorem k0_1360 {d : Nat} {l0 l1 l2 l3 : Option PV} {st : List PV} {M : Mem} {Q : Option PV → Mem → Prop} : WP d 0 1360 [l0, l1, l2, l3] (st) M Q = WP d 0 1361 [l0, l1, l2, l3] (vi 1 :: st) M Q := w_iconst mC_0 d0_1360 (by decide)
theorem d0_1361 : decode cL_law 1361 = .ok (.iadd, 1) := by decide +kernel
theorem k0_1361 {d : Nat} {l0 l1 l2 l3 : Option PV} {st : List PV} {M : Mem} {Q : Option PV → Mem → Prop} {x y : Int32} : WP d 0 1361 [l0, l1, l2, l3] (vi y :: vi x :: st) M Q = WP d 0 1362 [l0, l1, l2, l3] (vi (x + y) :: st) M Q := w1 mC_0 d0_1361 rfl rfl
theorem d0_1362 : decode cL_law 1362 = .ok (.iaload, 1) := by decide +kernel
theorem k0_1362 {d : Nat} {l0 l1 l2 l3 : Option PV} {st : List PV} {M : Mem} {Q : Option PV → Mem → Prop} {r : Nat} {j : Int32} (hk : mK M r = 13) (hj : inb j (mN M r)) : WP d 0 1362 [l0, l1, l2, l3] (vi j :: vr r :: st) M Q = WP d 0 1363 [l0, l1, l2, l3] (vi (mI M r (ix j)) :: st) M Q := w_sld mC_0 d0_1362 hk hj
theorem d0_1363 : decode cL_law 1363 = .ok (.aload_n 0, 1) := by decide +kernel
theorem k0_1363 {d x : Nat} {l1 l2 l3 : Option PV} {st : List PV} {M : Mem} {Q : Option PV → Mem → Prop} : WP d 0 1363 [some (vr x), l1, l2, l3] (st) M Q = WP d 0 1364 [some (vr x), l1, l2, l3] (vr x :: st) M Q := w1 mC_0 d0_1363 rfl rfl
theorem d0_1364 : decode cL_law 1364 = .ok (.iload_n 3, 1) := by decide +kernel
theorem k0_1364 {d : Nat} {x : Int32} {l0 l1 l2 : Option PV} {st : List PV} {M : Mem} {Q : Option PV → Mem → Prop} : WP d 0 1364 [l0, l1, l2, some (vi x)] (st) M Q = WP d 0 1365 [l0, l1, l2, some (vi x)] (vi x :: st) M Q := w1 mC_0 d0_1364 rfl rfl
theorem d0_1365 : decode cL_law 1365 = .ok (.iconst 2, 1) := by decide +kernel
theorem k0_1365 {d : Nat} {l0 l1 l2 l3 : Option PV} {st : List PV} {M : Mem} {Q : Option PV → Mem → Prop} : WP d 0 1365 [l0, l1, l2, l3] (st) M Q = WP d 0 1366 [l0, l1, l2, l3] (vi 2 :: st) M Q := w_iconst mC_0 d0_1365 (by decide)
theorem d0_1366 : decode cL_law 1366 = .ok (.iadd, 1) := by decide +kernel
theorem k0_1366 {d : Nat} {l0 l1 l2 l3 : Option PV} {st : List PV} {M : Mem} {Q : Option PV → Mem → Prop} {x y : Int32} : WP d 0 1366 [l0, l1, l2, l3] (vi y :: vi x :: st) M Q = WP d 0 1367 [l0, l1, l2, l3] (vi (x + y) :: st) M Q := w1 mC_0 d0_1366 rfl rfl
theorem d0_1367 : decode cL_law 1367 = .ok (.iaload, 1) := by decide +kernel
theorem k0_1367 {d : Nat} {l0 l1 l2 l3 : Option PV} {st : List PV} {M : Mem} {Q : Option PV → Mem → Prop} {r : Nat} {j : Int32} (hk : mK M r = 13) (hj : inb j (mN M r)) : WP d 0 1367 [l0, l1, l2, l3] (vi j :: vr r :: st) M Q = WP d 0 1368 [l0, l1, l2, l3] (vi (mI M r (ix j)) :: st) M Q := w_sld mC_0 d0_1367 hk hj
theorem d0_1368 : decode cL_law 1368 = .ok (.invokevirtual 172, 3) := by decide +kernel
theorem k0_1368 {d : Nat} {l0 l1 l2 l3 : Option PV} {st : List PV} {M : Mem} {Q : Option PV → Mem → Prop} {a0 a1 : Int32} {r : Nat} (hl : szL st ≤ 8) (hk : mK M r = 12) : WP (d + 1) 0 1368 [l0, l1, l2, l3] (vi a1 :: vi a0 :: vr r :: st) M Q = WP d 242 0 [some (vr r), some (vi a0), some (vi a1)] [] M (fun v M' => WP (d + 1) 0 1371 [l0, l1, l2, l3] (psh v st) M' Q) := w_callV mC_0 d0_1368 (ci := 12) rfl rfl rfl (Nat.le_of_ble_eq_true rfl) (by decide) rfl hl hk
theorem d0_1371 : decode cL_law 1371 = .ok (.lcmp, 1) := by decide +kernel
theorem k0_1371 {d : Nat} {l0 l1 l2 l3 : Option PV} {st : List PV} {M : Mem} {Q : Option PV → Mem → Prop} {x y : Int64} : WP d 0 1371 [l0, l1, l2, l3] (vl y :: vl x :: st) M Q = WP d 0 1372 [l0, l1, l2, l3] (vi (lg_cmp x y) :: st) M Q := w1 mC_0 d0_1371 rfl rfl
theorem d0_1372 : decode cL_law 1372 = .ok (.ifCond .eq 124, 3) := by decide +kernel
theorem k0_1372 {d : Nat} {l0 l1 l2 l3 : Option PV} {st : List PV} {M : Mem} {Q : Option PV → Mem → Prop} {x : Int32} : WP d 0 1372 [l0, l1, l2, l3] (vi x :: st) M Q = (if x = 0 then WP d 0 1496 [l0, l1, l2, l3] (st) M Q else WP d 0 1375 [l0, l1, l2, l3] (st) M Q) := w_if_eq mC_0 d0_1372 (by decide)
theorem d0_1375 : decode cL_law 1375 = .ok (.iconst 0, 1) := by decide +kernel
theorem k0_1375 {d : Nat} {l0 l1 l2 l3 : Option PV} {st : List PV} {M : Mem} {Q : Option PV → Mem → Prop} : WP d 0 1375 [l0, l1, l2, l3] (st) M Q = WP d 0 1376 [l0, l1, l2, l3] (vi 0 :: st) M Q := w_iconst mC_0 d0_1375 (by decide)
theorem d0_1376 : decode cL_law 1376 = .ok (.ireturn, 1) := by decide +kernel
theorem k0_1376 {d : Nat} {l0 l1 l2 l3 : Option PV} {M : Mem} {Q : Option PV → Mem → Prop} {x : Int32} (hx : x = 0 ∨ x = 1) : WP d 0 1376 [l0, l1, l2, l3] ([vi x]) M Q = Q (some (vi x)) M := w_zret mC_0 d0_1376 rfl hx
theorem d0_1377 : decode cL_law 1377 = .ok (.aload_n 1, 1) := by decide +kernel
theorem k0_1377 {d x : Nat} {l0 l2 l3 : Option PV} {st : List PV} {M : Mem} {Q : Option PV → Mem → Prop} : WP d 0 1377 [l0, some (vr x), l2, l3] (st) M Q = WP d 0 1378 [l0, some (vr x), l2, l3] (vr x :: st) M Q := w1 mC_0 d0_1377 rfl rfl
theorem d0_1378 : decode cL_law 1378 = .ok (.aload_n 0, 1) := by decide +kernel
theorem k0_1378 {d x : Nat} {l1 l2 l3 : Option PV} {st : List PV} {M : Mem} {Q : Option PV → Mem → Prop} : WP d 0 1378 [some (vr x), l1, l2, l3] (st) M Q = WP d 0 1379 [some (vr x), l1, l2, l3] (vr x :: st) M Q := w1 mC_0 d0_1378 rfl rfl
theorem d0_1379 : decode cL_law 1379 = .ok (.iload_n 3, 1) := by decide +kernel
theorem k0_1379 {d : Nat} {x : Int32} {l0 l1 l2 : Option PV} {st : List PV} {M : Mem} {Q : Option PV → Mem → Prop} : WP d 0 1379 [l0, l1, l2, some (vi x)] (st) M Q = WP d 0 1380 [l0, l1, l2, some (vi x)] (vi x :: st) M Q := w1 mC_0 d0_1379 rfl rfl
theorem d0_1380 : decode cL_law 1380 = .ok (.iconst 1, 1) := by decide +kernel
theorem k0_1380 {d : Nat} {l0 l1 l2 l3 : Option PV} {st : List PV} {M : Mem} {Q : Option PV → Mem → Prop} : WP d 0 1380 [l0, l1, l2, l3] (st) M Q = WP d 0 1381 [l0, l1, l2, l3] (vi 1 :: st) M Q := w_iconst mC_0 d0_1380 (by decide)
theorem d0_1381 : decode cL_law 1381 = .ok (.iadd, 1) := by decide +kernel
theorem k0_1381 {d : Nat} {l0 l1 l2 l3 : Option PV} {st : List PV} {M : Mem} {Q : Option PV → Mem → Prop} {x y : Int32} : WP d 0 1381 [l0, l1, l2, l3] (vi y :: vi x :: st) M Q = WP d 0 1382 [l0, l1, l2, l3] (vi (x + y) :: st) M Q := w1 mC_0 d0_1381 rfl rfl
theorem d0_1382 : decode cL_law 1382 = .ok (.iaload, 1) := by decide +kernel
theorem k0_1382 {d : Nat} {l0 l1 l2 l3 : Option PV} {st : List PV} {M : Mem} {Q : Option PV → Mem → Prop} {r : Nat} {j : Int32} (hk : mK M r = 13) (hj : inb j (mN M r)) : WP d 0 1382 [l0, l1, l2, l3] (vi j :: vr r :: st) M Q = WP d 0 1383 [l0, l1, l2, l3] (vi (mI M r (ix j)) :: st) M Q := w_sld mC_0 d0_1382 hk hj
theorem d0_1383 : decode cL_law 1383 = .ok (.aload_n 0, 1) := by decide +kernel
theorem k0_1383 {d x : Nat} {l1 l2 l3 : Option PV} {st : List PV} {M : Mem} {Q : Option PV → Mem → Prop} : WP d 0 1383 [some (vr x), l1, l2, l3] (st) M Q = WP d 0 1384 [some (vr x), l1, l2, l3] (vr x :: st) M Q := w1 mC_0 d0_1383 rfl rfl
theorem d0_1384 : decode cL_law 1384 = .ok (.iload_n 3, 1) := by decide +kernel
theorem k0_1384 {d : Nat} {x : Int32} {l0 l1 l2 : Option PV} {st : List PV} {M : Mem} {Q : Option PV → Mem → Prop} : WP d 0 1384 [l0, l1, l2, some (vi x)] (st) M Q = WP d 0 1385 [l0, l1, l2, some (vi x)] (vi x :: st) M Q := w1 mC_0 d0_1384 rfl rfl
theorem d0_1385 : decode cL_law 1385 = .ok (.iconst 2, 1) := by decide +kernel
theorem k0_1385 {d : Nat} {l0 l1 l2 l3 : Option PV} {st : List PV} {M : Mem} {Q : Option PV → Mem → Prop} : WP d 0 1385 [l0, l1, l2, l3] (st) M Q = WP d 0 1386 [l0, l1, l2, l3] (vi 2 :: st) M Q := w_iconst mC_0 d0_1385 (by decide)
theorem d0_1386 : decode cL_law 1386 = .ok (.iadd, 1) := by decide +kernel
theorem k0_1386 {d : Nat} {l0 l1 l2 l3 : Option PV} {st : List PV} {M : Mem} {Q : Option PV → Mem → Prop} {x y : Int32} : WP d 0 1386 [l0, l1, l2, l3] (vi y :: vi x :: st) M Q = WP d 0 1387 [l0, l1, l2, l3] (vi (x + y) :: st) M Q := w1 mC_0 d0_1386 rfl rfl
theorem d0_1387 : decode cL_law 1387 = .ok (.iaload, 1) := by decide +kernel
theorem k0_1387 {d : Nat} {l0 l1 l2 l3 : Option PV} {st : List PV} {M : Mem} {Q : Option PV → Mem → Prop} {r : Nat} {j : Int32} (hk : mK M r = 13) (hj : inb j (mN M r)) : WP d 0 1387 [l0, l1, l2, l3] (vi j :: vr r :: st) M Q = WP d 0 1388 [l0, l1, l2, l3] (vi (mI M r (ix j)) :: st) M Q := w_sld mC_0 d0_1387 hk hj
theorem d0_1388 : decode cL_law 1388 = .ok (.aload_n 0, 1) := by decide +kernel
theorem k0_1388 {d x : Nat} {l1 l2 l3 : Option PV} {st : List PV} {M : Mem} {Q : Option PV → Mem → Prop} : WP d 0 1388 [some (vr x), l1, l2, l3] (st) M Q = WP d 0 1389 [some (vr x), l1, l2, l3] (vr x :: st) M Q := w1 mC_0 d0_1388 rfl rfl
theorem d0_1389 : decode cL_law 1389 = .ok (.iload_n 3, 1) := by decide +kernel
theorem k0_1389 {d : Nat} {x : Int32} {l0 l1 l2 : Option PV} {st : List PV} {M : Mem} {Q : Option PV → Mem → Prop} : WP d 0 1389 [l0, l1, l2, some (vi x)] (st) M Q = WP d 0 1390 [l0, l1, l2, some (vi x)] (vi x :: st) M Q := w1 mC_0 d0_1389 rfl rfl
theorem d0_1390 : decode cL_law 1390 = .ok (.iconst 3, 1) := by decide +kernel
theorem k0_1390 {d : Nat} {l0 l1 l2 l3 : Option PV} {st : List PV} {M : Mem} {Q : Option PV → Mem → Prop} : WP d 0 1390 [l0, l1, l2, l3] (st) M Q = WP d 0 1391 [l0, l1, l2, l3] (vi 3 :: st) M Q := w_iconst mC_0 d0_1390 (by decide)
theorem d0_1391 : decode cL_law 1391 = .ok (.iadd, 1) := by decide +kernel
theorem k0_1391 {d : Nat} {l0 l1 l2 l3 : Option PV} {st : List PV} {M : Mem} {Q : Option PV → Mem → Prop} {x y : Int32} : WP d 0 1391 [l0, l1, l2, l3] (vi y :: vi x :: st) M Q = WP d 0 1392 [l0, l1, l2, l3] (vi (x + y) :: st) M Q := w1 mC_0 d0_1391 rfl rfl
theorem d0_1392 : decode cL_law 1392 = .ok (.iaload, 1) := by decide +kernel
theorem k0_1392 {d : Nat} {l0 l1 l2 l3 : Option PV} {st : List PV} {M : Mem} {Q : Option PV → Mem → Prop} {r : Nat} {j : Int32} (hk : mK M r = 13) (hj : inb j (mN M r)) : WP d 0 1392 [l0, l1, l2, l3] (vi j :: vr r :: st) M Q = WP d 0 1393 [l0, l1, l2, l3] (vi (mI M r (ix j)) :: st) M Q := w_sld mC_0 d0_1392 hk hj
theorem d0_1393 : decode cL_law 1393 = .ok (.aload_n 0, 1) := by decide +kernel
theorem k0_1393 {d x : Nat} {l1 l2 l3 : Option PV} {st : List PV} {M : Mem} {Q : Option PV → Mem → Prop} : WP d 0 1393 [some (vr x), l1, l2, l3] (st) M Q = WP d 0 1394 [some (vr x), l1, l2, l3] (vr x :: st) M Q := w1 mC_0 d0_1393 rfl rfl
theorem d0_1394 : decode cL_law 1394 = .ok (.iload_n 3, 1) := by decide +kernel
theorem k0_1394 {d : Nat} {x : Int32} {l0 l1 l2 : Option PV} {st : List PV} {M : Mem} {Q : Option PV → Mem → Prop} : WP d 0 1394 [l0, l1, l2, some (vi x)] (st) M Q = WP d 0 1395 [l0, l1, l2, some (vi x)] (vi x :: st) M Q := w1 mC_0 d0_1394 rfl rfl
theorem d0_1395 : decode cL_law 1395 = .ok (.iconst 4, 1) := by decide +kernel
theorem k0_1395 {d : Nat} {l0 l1 l2 l3 : Option PV} {st : List PV} {M : Mem} {Q : Option PV → Mem → Prop} : WP d 0 1395 [l0, l1, l2, l3] (st) M Q = WP d 0 1396 [l0, l1, l2, l3] (vi 4 :: st) M Q := w_iconst mC_0 d0_1395 (by decide)
theorem d0_1396 : decode cL_law 1396 = .ok (.iadd, 1) := by decide +kernel
theorem k0_1396 {d : Nat} {l0 l1 l2 l3 : Option PV} {st : List PV} {M : Mem} {Q : Option PV → Mem → Prop} {x y : Int32} : WP d 0 1396 [l0, l1, l2, l3] (vi y :: vi x :: st) M Q = WP d 0 1397 [l0, l1, l2, l3] (vi (x + y) :: st) M Q := w1 mC_0 d0_1396 rfl rfl
theorem d0_1397 : decode cL_law 1397 = .ok (.iaload, 1) := by decide +kernel
theorem k0_1397 {d : Nat} {l0 l1 l2 l3 : Option PV} {st : List PV} {M : Mem} {Q : Option PV → Mem → Prop} {r : Nat} {j : Int32} (hk : mK M r = 13) (hj : inb j (mN M r)) : WP d 0 1397 [l0, l1, l2, l3] (vi j :: vr r :: st) M Q = WP d 0 1398 [l0, l1, l2, l3] (vi (mI M r (ix j)) :: st) M Q := w_sld mC_0 d0_1397 hk hj
theorem d0_1398 : decode cL_law 1398 = .ok (.aload_n 0, 1) := by decide +kernel
theorem k0_1398 {d x : Nat} {l1 l2 l3 : Option PV} {st : List PV} {M : Mem} {Q : Option PV → Mem → Prop} : WP d 0 1398 [some (vr x), l1, l2, l3] (st) M Q = WP d 0 1399 [some (vr x), l1, l2, l3] (vr x :: st) M Q := w1 mC_0 d0_1398 rfl rfl
theorem d0_1399 : decode cL_law 1399 = .ok (.iload_n 3, 1) := by decide +kernel
theorem k0_1399 {d : Nat} {x : Int32} {l0 l1 l2 : Option PV} {st : List PV} {M : Mem} {Q : Option PV → Mem → Prop} : WP d 0 1399 [l0, l1, l2, some (vi x)] (st) M Q = WP d 0 1400 [l0, l1, l2, some (vi x)] (vi x :: st) M Q := w1 mC_0 d0_1399 rfl rfl
theorem d0_1400 : decode cL_law 1400 = .ok (.iconst 5, 1) := by decide +kernel
theorem k0_1400 {d : Nat} {l0 l1 l2 l3 : Option PV} {st : List PV} {M : Mem} {Q : Option PV → Mem → Prop} : WP d 0 1400 [l0, l1, l2, l3] (st) M Q = WP d 0 1401 [l0, l1, l2, l3] (vi 5 :: st) M Q := w_iconst mC_0 d0_1400 (by decide)
theorem d0_1401 : decode cL_law 1401 = .ok (.iadd, 1) := by decide +kernel
theorem k0_1401 {d : Nat} {l0 l1 l2 l3 : Option PV} {st : List PV} {M : Mem} {Q : Option PV → Mem → Prop} {x y : Int32} : WP d 0 1401 [l0, l1, l2, l3] (vi y :: vi x :: st) M Q = WP d 0 1402 [l0, l1, l2, l3] (vi (x + y) :: st) M Q := w1 mC_0 d0_1401 rfl rfl
theorem d0_1402 : decode cL_law 1402 = .ok (.iaload, 1) := by decide +kernel
theorem k0_1402 {d : Nat} {l0 l1 l2 l3 : Option PV} {st : List PV} {M : Mem} {Q : Option PV → Mem → Prop} {r : Nat} {j : Int32} (hk : mK M r = 13) (hj : inb j (mN M r)) : WP d 0 1402 [l0, l1, l2, l3] (vi j :: vr r :: st) M Q = WP d 0 1403 [l0, l1, l2, l3] (vi (mI M r (ix j)) :: st) M Q := w_sld mC_0 d0_1402 hk hj
theorem d0_1403 : decode cL_law 1403 = .ok (.invokevirtual 173, 3) := by decide +kernel
theorem k0_1403 {d : Nat} {l0 l1 l2 l3 : Option PV} {st : List PV} {M : Mem} {Q : Option PV → Mem → Prop} {a0 a1 a2 a3 a4 : Int32} {r : Nat} (hl : szL st ≤ 8) (hk : mK M r = 11) : WP (d + 1) 0 1403 [l0, l1, l2, l3] (vi a4 :: vi a3 :: vi a2 :: vi a1 :: vi a0 :: vr r :: st) M Q = WP d 137 0 [some (vr r), some (vi a0), some (vi a1), some (vi a2), some (vi a3), some (vi a4), none, none] [] M (fun v M' => WP (d + 1) 0 1406 [l0, l1, l2, l3] (psh v st) M' Q) := w_callV mC_0 d0_1403 (ci := 11) rfl rfl rfl (Nat.le_of_ble_eq_true rfl) (by decide) rfl hl hk
theorem d0_1406 : decode cL_law 1406 = .ok (.aload_n 2, 1) := by decide +kernel
theorem k0_1406 {d x : Nat} {l0 l1 l3 : Option PV} {st : List PV} {M : Mem} {Q : Option PV → Mem → Prop} : WP d 0 1406 [l0, l1, some (vr x), l3] (st) M Q = WP d 0 1407 [l0, l1, some (vr x), l3] (vr x :: st) M Q := w1 mC_0 d0_1406 rfl rfl
theorem d0_1407 : decode cL_law 1407 = .ok (.aload_n 0, 1) := by decide +kernel
theorem k0_1407 {d x : Nat} {l1 l2 l3 : Option PV} {st : List PV} {M : Mem} {Q : Option PV → Mem → Prop} : WP d 0 1407 [some (vr x), l1, l2, l3] (st) M Q = WP d 0 1408 [some (vr x), l1, l2, l3] (vr x :: st) M Q := w1 mC_0 d0_1407 rfl rfl
theorem d0_1408 : decode cL_law 1408 = .ok (.iload_n 3, 1) := by decide +kernel
theorem k0_1408 {d : Nat} {x : Int32} {l0 l1 l2 : Option PV} {st : List PV} {M : Mem} {Q : Option PV → Mem → Prop} : WP d 0 1408 [l0, l1, l2, some (vi x)] (st) M Q = WP d 0 1409 [l0, l1, l2, some (vi x)] (vi x :: st) M Q := w1 mC_0 d0_1408 rfl rfl
theorem d0_1409 : decode cL_law 1409 = .ok (.iconst 1, 1) := by decide +kernel
theorem k0_1409 {d : Nat} {l0 l1 l2 l3 : Option PV} {st : List PV} {M : Mem} {Q : Option PV → Mem → Prop} : WP d 0 1409 [l0, l1, l2, l3] (st) M Q = WP d 0 1410 [l0, l1, l2, l3] (vi 1 :: st) M Q := w_iconst mC_0 d0_1409 (by decide)
theorem d0_1410 : decode cL_law 1410 = .ok (.iadd, 1) := by decide +kernel
theorem k0_1410 {d : Nat} {l0 l1 l2 l3 : Option PV} {st : List PV} {M : Mem} {Q : Option PV → Mem → Prop} {x y : Int32} : WP d 0 1410 [l0, l1, l2, l3] (vi y :: vi x :: st) M Q = WP d 0 1411 [l0, l1, l2, l3] (vi (x + y) :: st) M Q := w1 mC_0 d0_1410 rfl rfl
theorem d0_1411 : decode cL_law 1411 = .ok (.iaload, 1) := by decide +kernel
theorem k0_1411 {d : Nat} {l0 l1 l2 l3 : Option PV} {st : List PV} {M : Mem} {Q : Option PV → Mem → Prop} {r : Nat} {j : Int32} (hk : mK M r = 13) (hj : inb j (mN M r)) : WP d 0 1411 [l0, l1, l2, l3] (vi j :: vr r :: st) M Q = WP d 0 1412 [l0, l1, l2, l3] (vi (mI M r (ix j)) :: st) M Q := w_sld mC_0 d0_1411 hk hj
theorem d0_1412 : decode cL_law 1412 = .ok (.aload_n 0, 1) := by decide +kernel
theorem k0_1412 {d x : Nat} {l1 l2 l3 : Option PV} {st : List PV} {M : Mem} {Q : Option PV → Mem → Prop} : WP d 0 1412 [some (vr x), l1, l2, l3] (st) M Q = WP d 0 1413 [some (vr x), l1, l2, l3] (vr x :: st) M Q := w1 mC_0 d0_1412 rfl rfl
theorem d0_1413 : decode cL_law 1413 = .ok (.iload_n 3, 1) := by decide +kernel
theorem k0_1413 {d : Nat} {x : Int32} {l0 l1 l2 : Option PV} {st : List PV} {M : Mem} {Q : Option PV → Mem → Prop} : WP d 0 1413 [l0, l1, l2, some (vi x)] (st) M Q = WP d 0 1414 [l0, l1, l2, some (vi x)] (vi x :: st) M Q := w1 mC_0 d0_1413 rfl rfl
theorem d0_1414 : decode cL_law 1414 = .ok (.iconst 2, 1) := by decide +kernel
theorem k0_1414 {d : Nat} {l0 l1 l2 l3 : Option PV} {st : List PV} {M : Mem} {Q : Option PV → Mem → Prop} : WP d 0 1414 [l0, l1, l2, l3] (st) M Q = WP d 0 1415 [l0, l1, l2, l3] (vi 2 :: st) M Q := w_iconst mC_0 d0_1414 (by decide)
theorem d0_1415 : decode cL_law 1415 = .ok (.iadd, 1) := by decide +kernel
theorem k0_1415 {d : Nat} {l0 l1 l2 l3 : Option PV} {st : List PV} {M : Mem} {Q : Option PV → Mem → Prop} {x y : Int32} : WP d 0 1415 [l0, l1, l2, l3] (vi y :: vi x :: st) M Q = WP d 0 1416 [l0, l1, l2, l3] (vi (x + y) :: st) M Q := w1 mC_0 d0_1415 rfl rfl
theorem d0_1416 : decode cL_law 1416 = .ok (.iaload, 1) := by decide +kernel
theorem k0_1416 {d : Nat} {l0 l1 l2 l3 : Option PV} {st : List PV} {M : Mem} {Q : Option PV → Mem → Prop} {r : Nat} {j : Int32} (hk : mK M r = 13) (hj : inb j (mN M r)) : WP d 0 1416 [l0, l1, l2, l3] (vi j :: vr r :: st) M Q = WP d 0 1417 [l0, l1, l2, l3] (vi (mI M r (ix j)) :: st) M Q := w_sld mC_0 d0_1416 hk hj
theorem d0_1417 : decode cL_law 1417 = .ok (.aload_n 0, 1) := by decide +kernel
theorem k0_1417 {d x : Nat} {l1 l2 l3 : Option PV} {st : List PV} {M : Mem} {Q : Option PV → Mem → Prop} : WP d 0 1417 [some (vr x), l1, l2, l3] (st) M Q = WP d 0 1418 [some (vr x), l1, l2, l3] (vr x :: st) M Q := w1 mC_0 d0_1417 rfl rfl
theorem d0_1418 : decode cL_law 1418 = .ok (.iload_n 3, 1) := by decide +kernel
theorem k0_1418 {d : Nat} {x : Int32} {l0 l1 l2 : Option PV} {st : List PV} {M : Mem} {Q : Option PV → Mem → Prop} : WP d 0 1418 [l0, l1, l2, some (vi x)] (st) M Q = WP d 0 1419 [l0, l1, l2, some (vi x)] (vi x :: st) M Q := w1 mC_0 d0_1418 rfl rfl
theorem d0_1419 : decode cL_law 1419 = .ok (.iconst 3, 1) := by decide +kernel
theorem k0_1419 {d : Nat} {l0 l1 l2 l3 : Option PV} {st : List PV} {M : Mem} {Q : Option PV → Mem → Prop} : WP d 0 1419 [l0, l1, l2, l3] (st) M Q = WP d 0 1420 [l0, l1, l2, l3] (vi 3 :: st) M Q := w_iconst mC_0 d0_1419 (by decide)
theorem d0_1420 : decode cL_law 1420 = .ok (.iadd, 1) := by decide +kernel
theorem k0_1420 {d : Nat} {l0 l1 l2 l3 : Option PV} {st : List PV} {M : Mem} {Q : Option PV → Mem → Prop} {x y : Int32} : WP d 0 1420 [l0, l1, l2, l3] (vi y :: vi x :: st) M Q = WP d 0 1421 [l0, l1, l2, l3] (vi (x + y) :: st) M Q := w1 mC_0 d0_1420 rfl rfl
theorem d0_1421 : decode cL_law 1421 = .ok (.iaload, 1) := by decide +kernel
theorem k0_1421 {d : Nat} {l0 l1 l2 l3 : Option PV} {st : List PV} {M : Mem} {Q : Option PV → Mem → Prop} {r : Nat} {j : Int32} (hk : mK M r = 13) (hj : inb j (mN M r)) : WP d 0 1421 [l0, l1, l2, l3] (vi j :: vr r :: st) M Q = WP d 0 1422 [l0, l1, l2, l3] (vi (mI M r (ix j)) :: st) M Q := w_sld mC_0 d0_1421 hk hj
theorem d0_1422 : decode cL_law 1422 = .ok (.aload_n 0, 1) := by decide +kernel
theorem k0_1422 {d x : Nat} {l1 l2 l3 : Option PV} {st : List PV} {M : Mem} {Q : Option PV → Mem → Prop} : WP d 0 1422 [some (vr x), l1, l2, l3] (st) M Q = WP d 0 1423 [some (vr x), l1, l2, l3] (vr x :: st) M Q := w1 mC_0 d0_1422 rfl rfl
theorem d0_1423 : decode cL_law 1423 = .ok (.iload_n 3, 1) := by decide +kernel
theorem k0_1423 {d : Nat} {x : Int32} {l0 l1 l2 : Option PV} {st : List PV} {M : Mem} {Q : Option PV → Mem → Prop} : WP d 0 1423 [l0, l1, l2, some (vi x)] (st) M Q = WP d 0 1424 [l0, l1, l2, some (vi x)] (vi x :: st) M Q := w1 mC_0 d0_1423 rfl rfl
theorem d0_1424 : decode cL_law 1424 = .ok (.iconst 4, 1) := by decide +kernel
theorem k0_1424 {d : Nat} {l0 l1 l2 l3 : Option PV} {st : List PV} {M : Mem} {Q : Option PV → Mem → Prop} : WP d 0 1424 [l0, l1, l2, l3] (st) M Q = WP d 0 1425 [l0, l1, l2, l3] (vi 4 :: st) M Q := w_iconst mC_0 d0_1424 (by decide)
theorem d0_1425 : decode cL_law 1425 = .ok (.iadd, 1) := by decide +kernel
theorem k0_1425 {d : Nat} {l0 l1 l2 l3 : Option PV} {st : List PV} {M : Mem} {Q : Option PV → Mem → Prop} {x y : Int32} : WP d 0 1425 [l0, l1, l2, l3] (vi y :: vi x :: st) M Q = WP d 0 1426 [l0, l1, l2, l3] (vi (x + y) :: st) M Q := w1 mC_0 d0_1425 rfl rfl
theorem d0_1426 : decode cL_law 1426 = .ok (.iaload, 1) := by decide +kernel
theorem k0_1426 {d : Nat} {l0 l1 l2 l3 : Option PV} {st : List PV} {M : Mem} {Q : Option PV → Mem → Prop} {r : Nat} {j : Int32} (hk : mK M r = 13) (hj : inb j (mN M r)) : WP d 0 1426 [l0, l1, l2, l3] (vi j :: vr r :: st) M Q = WP d 0 1427 [l0, l1, l2, l3] (vi (mI M r (ix j)) :: st) M Q := w_sld mC_0 d0_1426 hk hj
theorem d0_1427 : decode cL_law 1427 = .ok (.aload_n 0, 1) := by decide +kernel
theorem k0_1427 {d x : Nat} {l1 l2 l3 : Option PV} {st : List PV} {M : Mem} {Q : Option PV → Mem → Prop} : WP d 0 1427 [some (vr x), l1, l2, l3] (st) M Q = WP d 0 1428 [some (vr x), l1, l2, l3] (vr x :: st) M Q := w1 mC_0 d0_1427 rfl rfl
theorem d0_1428 : decode cL_law 1428 = .ok (.iload_n 3, 1) := by decide +kernel
theorem k0_1428 {d : Nat} {x : Int32} {l0 l1 l2 : Option PV} {st : List PV} {M : Mem} {Q : Option PV → Mem → Prop} : WP d 0 1428 [l0, l1, l2, some (vi x)] (st) M Q = WP d 0 1429 [l0, l1, l2, some (vi x)] (vi x :: st) M Q := w1 mC_0 d0_1428 rfl rfl
theorem d0_1429 : decode cL_law 1429 = .ok (.iconst 5, 1) := by decide +kernel
theorem k0_1429 {d : Nat} {l0 l1 l2 l3 : Option PV} {st : List PV} {M : Mem} {Q : Option PV → Mem → Prop} : WP d 0 1429 [l0, l1, l2, l3] (st) M Q = WP d 0 1430 [l0, l1, l2, l3] (vi 5 :: st) M Q := w_iconst mC_0 d0_1429 (by decide)
theorem d0_1430 : decode cL_law 1430 = .ok (.iadd, 1) := by decide +kernel
theorem k0_1430 {d : Nat} {l0 l1 l2 l3 : Option PV} {st : List PV} {M : Mem} {Q : Option PV → Mem → Prop} {x y : Int32} : WP d 0 1430 [l0, l1, l2, l3] (vi y :: vi x :: st) M Q = WP d 0 1431 [l0, l1, l2, l3] (vi (x + y) :: st) M Q := w1 mC_0 d0_1430 rfl rfl
theorem d0_1431 : decode cL_law 1431 = .ok (.iaload, 1) := by decide +kernel
theorem k0_1431 {d : Nat} {l0 l1 l2 l3 : Option PV} {st : List PV} {M : Mem} {Q : Option PV → Mem → Prop} {r : Nat} {j : Int32} (hk : mK M r = 13) (hj : inb j (mN M r)) : WP d 0 1431 [l0, l1, l2, l3] (vi j :: vr r :: st) M Q = WP d 0 1432 [l0, l1, l2, l3] (vi (mI M r (ix j)) :: st) M Q := w_sld mC_0 d0_1431 hk hj
theorem d0_1432 : decode cL_law 1432 = .ok (.invokevirtual 177, 3) := by decide +kernel
theorem k0_1432 {d : Nat} {l0 l1 l2 l3 : Option PV} {st : List PV} {M : Mem} {Q : Option PV → Mem → Prop} {a0 a1 a2 a3 a4 : Int32} {r : Nat} (hl : szL st ≤ 8) (hk : mK M r = 12) : WP (d + 1) 0 1432 [l0, l1, l2, l3] (vi a4 :: vi a3 :: vi a2 :: vi a1 :: vi a0 :: vr r :: st) M Q = WP d 243 0 [some (vr r), some (vi a0), some (vi a1), some (vi a2), some (vi a3), some (vi a4), none] [] M (fun v M' => WP (d + 1) 0 1435 [l0, l1, l2, l3] (psh v st) M' Q) := w_callV mC_0 d0_1432 (ci := 12) rfl rfl rfl (Nat.le_of_ble_eq_true rfl) (by decide) rfl hl hk
theorem d0_1435 : decode cL_law 1435 = .ok (.if_icmp .eq 61, 3) := by decide +kernel
theorem k0_1435 {d : Nat} {l0 l1 l2 l3 : Option PV} {st : List PV} {M : Mem} {Q : Option PV → Mem → Prop} {x y : Int32} : WP d 0 1435 [l0, l1, l2, l3] (vi y :: vi x :: st) M Q = (if x = y then WP d 0 1496 [l0, l1, l2, l3] (st) M Q else WP d 0 1438 [l0, l1, l2, l3] (st) M Q) := w_ic_eq mC_0 d0_1435 (by decide)
theorem d0_1438 : decode cL_law 1438 = .ok (.iconst 0, 1) := by decide +kernel
theorem k0_1438 {d : Nat} {l0 l1 l2 l3 : Option PV} {st : List PV} {M : Mem} {Q : Option PV → Mem → Prop} : WP d 0 1438 [l0, l1, l2, l3] (st) M Q = WP d 0 1439 [l0, l1, l2, l3] (vi 0 :: st) M Q := w_iconst mC_0 d0_1438 (by decide)
theorem d0_1439 : decode cL_law 1439 = .ok (.ireturn, 1) := by decide +kernel
theorem k0_1439 {d : Nat} {l0 l1 l2 l3 : Option PV} {M : Mem} {Q : Option PV → Mem → Prop} {x : Int32} (hx : x = 0 ∨ x = 1) : WP d 0 1439 [l0, l1, l2, l3] ([vi x]) M Q = Q (some (vi x)) M := w_zret mC_0 d0_1439 rfl hx
theorem d0_1440 : decode cL_law 1440 = .ok (.aload_n 1, 1) := by decide +kernel
theorem k0_1440 {d x : Nat} {l0 l2 l3 : Option PV} {st : List PV} {M : Mem} {Q : Option PV → Mem → Prop} : WP d 0 1440 [l0, some (vr x), l2, l3] (st) M Q = WP d 0 1441 [l0, some (vr x), l2, l3] (vr x :: st) M Q := w1 mC_0 d0_1440 rfl rfl
theorem d0_1441 : decode cL_law 1441 = .ok (.aload_n 0, 1) := by decide +kernel
theorem k0_1441 {d x : Nat} {l1 l2 l3 : Option PV} {st : List PV} {M : Mem} {Q : Option PV → Mem → Prop} : WP d 0 1441 [some (vr x), l1, l2, l3] (st) M Q = WP d 0 1442 [some (vr x), l1, l2, l3] (vr x :: st) M Q := w1 mC_0 d0_1441 rfl rfl
theorem d0_1442 : decode cL_law 1442 = .ok (.iload_n 3, 1) := by decide +kernel
theorem k0_1442 {d : Nat} {x : Int32} {l0 l1 l2 : Option PV} {st : List PV} {M : Mem} {Q : Option PV → Mem → Prop} : WP d 0 1442 [l0, l1, l2, some (vi x)] (st) M Q = WP d 0 1443 [l0, l1, l2, some (vi x)] (vi x :: st) M Q := w1 mC_0 d0_1442 rfl rfl
theorem d0_1443 : decode cL_law 1443 = .ok (.iconst 1, 1) := by decide +kernel
theorem k0_1443 {d : Nat} {l0 l1 l2 l3 : Option PV} {st : List PV} {M : Mem} {Q : Option PV → Mem → Prop} : WP d 0 1443 [l0, l1, l2, l3] (st) M Q = WP d 0 1444 [l0, l1, l2, l3] (vi 1 :: st) M Q := w_iconst mC_0 d0_1443 (by decide)
theorem d0_1444 : decode cL_law 1444 = .ok (.iadd, 1) := by decide +kernel
theorem k0_1444 {d : Nat} {l0 l1 l2 l3 : Option PV} {st : List PV} {M : Mem} {Q : Option PV → Mem → Prop} {x y : Int32} : WP d 0 1444 [l0, l1, l2, l3] (vi y :: vi x :: st) M Q = WP d 0 1445 [l0, l1, l2, l3] (vi (x + y) :: st) M Q := w1 mC_0 d0_1444 rfl rfl
theorem d0_1445 : decode cL_law 1445 = .ok (.iaload, 1) := by decide +kernel
theorem k0_1445 {d : Nat} {l0 l1 l2 l3 : Option PV} {st : List PV} {M : Mem} {Q : Option PV → Mem → Prop} {r : Nat} {j : Int32} (hk : mK M r = 13) (hj : inb j (mN M r)) : WP d 0 1445 [l0, l1, l2, l3] (vi j :: vr r :: st) M Q = WP d 0 1446 [l0, l1, l2, l3] (vi (mI M r (ix j)) :: st) M Q := w_sld mC_0 d0_1445 hk hj
theorem d0_1446 : decode cL_law 1446 = .ok (.aload_n 0, 1) := by decide +kernel
theorem k0_1446 {d x : Nat} {l1 l2 l3 : Option PV} {st : List PV} {M : Mem} {Q : Option PV → Mem → Prop} : WP d 0 1446 [some (vr x), l1, l2, l3] (st) M Q = WP d 0 1447 [some (vr x), l1, l2, l3] (vr x :: st) M Q := w1 mC_0 d0_1446 rfl rfl
theorem d0_1447 : decode cL_law 1447 = .ok (.iload_n 3, 1) := by decide +kernel
theorem k0_1447 {d : Nat} {x : Int32} {l0 l1 l2 : Option PV} {st : List PV} {M : Mem} {Q : Option PV → Mem → Prop} : WP d 0 1447 [l0, l1, l2, some (vi x)] (st) M Q = WP d 0 1448 [l0, l1, l2, some (vi x)] (vi x :: st) M Q := w1 mC_0 d0_1447 rfl rfl
theorem d0_1448 : decode cL_law 1448 = .ok (.iconst 2, 1) := by decide +kernel
theorem k0_1448 {d : Nat} {l0 l1 l2 l3 : Option PV} {st : List PV} {M : Mem} {Q : Option PV → Mem → Prop} : WP d 0 1448 [l0, l1, l2, l3] (st) M Q = WP d 0 1449 [l0, l1, l2, l3] (vi 2 :: st) M Q := w_iconst mC_0 d0_1448 (by decide)
theorem d0_1449 : decode cL_law 1449 = .ok (.iadd, 1) := by decide +kernel
theorem k0_1449 {d : Nat} {l0 l1 l2 l3 : Option PV} {st : List PV} {M : Mem} {Q : Option PV → Mem → Prop} {x y : Int32} : WP d 0 1449 [l0, l1, l2, l3] (vi y :: vi x :: st) M Q = WP d 0 1450 [l0, l1, l2, l3] (vi (x + y) :: st) M Q := w1 mC_0 d0_1449 rfl rfl
theorem d0_1450 : decode cL_law 1450 = .ok (.iaload, 1) := by decide +kernel
theorem k0_1450 {d : Nat} {l0 l1 l2 l3 : Option PV} {st : List PV} {M : Mem} {Q : Option PV → Mem → Prop} {r : Nat} {j : Int32} (hk : mK M r = 13) (hj : inb j (mN M r)) : WP d 0 1450 [l0, l1, l2, l3] (vi j :: vr r :: st) M Q = WP d 0 1451 [l0, l1, l2, l3] (vi (mI M r (ix j)) :: st) M Q := w_sld mC_0 d0_1450 hk hj
theorem d0_1451 : decode cL_law 1451 = .ok (.invokevirtual 178, 3) := by decide +kernel
theorem k0_1451 {d : Nat} {l0 l1 l2 l3 : Option PV} {st : List PV} {M : Mem} {Q : Option PV → Mem → Prop} {a0 a1 : Int32} {r : Nat} (hl : szL st ≤ 8) (hk : mK M r = 11) : WP (d + 1) 0 1451 [l0, l1, l2, l3] (vi a1 :: vi a0 :: vr r :: st) M Q = WP d 138 0 [some (vr r), some (vi a0), some (vi a1), none] [] M (fun v M' => WP (d + 1) 0 1454 [l0, l1, l2, l3] (psh v st) M' Q) := w_callV mC_0 d0_1451 (ci := 11) rfl rfl rfl (Nat.le_of_ble_eq_true rfl) (by decide) rfl hl hk
theorem d0_1454 : decode cL_law 1454 = .ok (.aload_n 2, 1) := by decide +kernel
theorem k0_1454 {d x : Nat} {l0 l1 l3 : Option PV} {st : List PV} {M : Mem} {Q : Option PV → Mem → Prop} : WP d 0 1454 [l0, l1, some (vr x), l3] (st) M Q = WP d 0 1455 [l0, l1, some (vr x), l3] (vr x :: st) M Q := w1 mC_0 d0_1454 rfl rfl
theorem d0_1455 : decode cL_law 1455 = .ok (.aload_n 0, 1) := by decide +kernel
theorem k0_1455 {d x : Nat} {l1 l2 l3 : Option PV} {st : List PV} {M : Mem} {Q : Option PV → Mem → Prop} : WP d 0 1455 [some (vr x), l1, l2, l3] (st) M Q = WP d 0 1456 [some (vr x), l1, l2, l3] (vr x :: st) M Q := w1 mC_0 d0_1455 rfl rfl
theorem d0_1456 : decode cL_law 1456 = .ok (.iload_n 3, 1) := by decide +kernel
theorem k0_1456 {d : Nat} {x : Int32} {l0 l1 l2 : Option PV} {st : List PV} {M : Mem} {Q : Option PV → Mem → Prop} : WP d 0 1456 [l0, l1, l2, some (vi x)] (st) M Q = WP d 0 1457 [l0, l1, l2, some (vi x)] (vi x :: st) M Q := w1 mC_0 d0_1456 rfl rfl
theorem d0_1457 : decode cL_law 1457 = .ok (.iconst 1, 1) := by decide +kernel
theorem k0_1457 {d : Nat} {l0 l1 l2 l3 : Option PV} {st : List PV} {M : Mem} {Q : Option PV → Mem → Prop} : WP d 0 1457 [l0, l1, l2, l3] (st) M Q = WP d 0 1458 [l0, l1, l2, l3] (vi 1 :: st) M Q := w_iconst mC_0 d0_1457 (by decide)
theorem d0_1458 : decode cL_law 1458 = .ok (.iadd, 1) := by decide +kernel
theorem k0_1458 {d : Nat} {l0 l1 l2 l3 : Option PV} {st : List PV} {M : Mem} {Q : Option PV → Mem → Prop} {x y : Int32} : WP d 0 1458 [l0, l1, l2, l3] (vi y :: vi x :: st) M Q = WP d 0 1459 [l0, l1, l2, l3] (vi (x + y) :: st) M Q := w1 mC_0 d0_1458 rfl rfl
theorem d0_1459 : decode cL_law 1459 = .ok (.iaload, 1) := by decide +kernel
theorem k0_1459 {d : Nat} {l0 l1 l2 l3 : Option PV} {st : List PV} {M : Mem} {Q : Option PV → Mem → Prop} {r : Nat} {j : Int32} (hk : mK M r = 13) (hj : inb j (mN M r)) : WP d 0 1459 [l0, l1, l2, l3] (vi j :: vr r :: st) M Q = WP d 0 1460 [l0, l1, l2, l3] (vi (mI M r (ix j)) :: st) M Q := w_sld mC_0 d0_1459 hk hj
theorem d0_1460 : decode cL_law 1460 = .ok (.aload_n 0, 1) := by decide +kernel
theorem k0_1460 {d x : Nat} {l1 l2 l3 : Option PV} {st : List PV} {M : Mem} {Q : Option PV → Mem → Prop} : WP d 0 1460 [some (vr x), l1, l2, l3] (st) M Q = WP d 0 1461 [some (vr x), l1, l2, l3] (vr x :: st) M Q := w1 mC_0 d0_1460 rfl rfl
theorem d0_1461 : decode cL_law 1461 = .ok (.iload_n 3, 1) := by decide +kernel
theorem k0_1461 {d : Nat} {x : Int32} {l0 l1 l2 : Option PV} {st : List PV} {M : Mem} {Q : Option PV → Mem → Prop} : WP d 0 1461 [l0, l1, l2, some (vi x)] (st) M Q = WP d 0 1462 [l0, l1, l2, some (vi x)] (vi x :: st) M Q := w1 mC_0 d0_1461 rfl rfl
theorem d0_1462 : decode cL_law 1462 = .ok (.iconst 2, 1) := by decide +kernel
theorem k0_1462 {d : Nat} {l0 l1 l2 l3 : Option PV} {st : List PV} {M : Mem} {Q : Option PV → Mem → Prop} : WP d 0 1462 [l0, l1, l2, l3] (st) M Q = WP d 0 1463 [l0, l1, l2, l3] (vi 2 :: st) M Q := w_iconst mC_0 d0_1462 (by decide)
theorem d0_1463 : decode cL_law 1463 = .ok (.iadd, 1) := by decide +kernel
theorem k0_1463 {d : Nat} {l0 l1 l2 l3 : Option PV} {st : List PV} {M : Mem} {Q : Option PV → Mem → Prop} {x y : Int32} : WP d 0 1463 [l0, l1, l2, l3] (vi y :: vi x :: st) M Q = WP d 0 1464 [l0, l1, l2, l3] (vi (x + y) :: st) M Q := w1 mC_0 d0_1463 rfl rfl
theorem d0_1464 : decode cL_law 1464 = .ok (.iaload, 1) := by decide +kernel
theorem k0_1464 {d : Nat} {l0 l1 l2 l3 : Option PV} {st : List PV} {M : Mem} {Q : Option PV → Mem → Prop} {r : Nat} {j : Int32} (hk : mK M r = 13) (hj : inb j (mN M r)) : WP d 0 1464 [l0, l1, l2, l3] (vi j :: vr r :: st) M Q = WP d 0 1465 [l0, l1, l2, l3] (vi (mI M r (ix j)) :: st) M Q := w_sld mC_0 d0_1464 hk hj
theorem d0_1465 : decode cL_law 1465 = .ok (.invokevirtual 181, 3) := by decide +kernel
theorem k0_1465 {d : Nat} {l0 l1 l2 l3 : Option PV} {st : List PV} {M : Mem} {Q : Option PV → Mem → Prop} {a0 a1 : Int32} {r : Nat} (hl : szL st ≤ 8) (hk : mK M r = 12) : WP (d + 1) 0 1465 [l0, l1, l2, l3] (vi a1 :: vi a0 :: vr r :: st) M Q = WP d 244 0 [some (vr r), some (vi a0), some (vi a1), none, none] [] M (fun v M' => WP (d + 1) 0 1468 [l0, l1, l2, l3] (psh v st) M' Q) := w_callV mC_0 d0_1465 (ci := 12) rfl rfl rfl (Nat.le_of_ble_eq_true rfl) (by decide) rfl hl hk
theorem d0_1468 : decode cL_law 1468 = .ok (.if_icmp .eq 28, 3) := by decide +kernel
theorem k0_1468 {d : Nat} {l0 l1 l2 l3 : Option PV} {st : List PV} {M : Mem} {Q : Option PV → Mem → Prop} {x y : Int32} : WP d 0 1468 [l0, l1, l2, l3] (vi y :: vi x :: st) M Q = (if x = y then WP d 0 1496 [l0, l1, l2, l3] (st) M Q else WP d 0 1471 [l0, l1, l2, l3] (st) M Q) := w_ic_eq mC_0 d0_1468 (by decide)
theorem d0_1471 : decode cL_law 1471 = .ok (.iconst 0, 1) := by decide +kernel
theorem k0_1471 {d : Nat} {l0 l1 l2 l3 : Option PV} {st : List PV} {M : Mem} {Q : Option PV → Mem → Prop} : WP d 0 1471 [l0, l1, l2, l3] (st) M Q = WP d 0 1472 [l0, l1, l2, l3] (vi 0 :: st) M Q := w_iconst mC_0 d0_1471 (by decide)
theorem d0_1472 : decode cL_law 1472 = .ok (.ireturn, 1) := by decide +kernel
theorem k0_1472 {d : Nat} {l0 l1 l2 l3 : Option PV} {M : Mem} {Q : Option PV → Mem → Prop} {x : Int32} (hx : x = 0 ∨ x = 1) : WP d 0 1472 [l0, l1, l2, l3] ([vi x]) M Q = Q (some (vi x)) M := w_zret mC_0 d0_1472 rfl hx
theorem d0_1473 : decode cL_law 1473 = .ok (.aload_n 1, 1) := by decide +kernel
theorem k0_1473 {d x : Nat} {l0 l2 l3 : Option PV} {st : List PV} {M : Mem} {Q : Option PV → Mem → Prop} : WP d 0 1473 [l0, some (vr x), l2, l3] (st) M Q = WP d 0 1474 [l0, some (vr x), l2, l3] (vr x :: st) M Q := w1 mC_0 d0_1473 rfl rfl
theorem d0_1474 : decode cL_law 1474 = .ok (.aload_n 0, 1) := by decide +kernel
theorem k0_1474 {d x : Nat} {l1 l2 l3 : Option PV} {st : List PV} {M : Mem} {Q : Option PV → Mem → Prop} : WP d 0 1474 [some (vr x), l1, l2, l3] (st) M Q = WP d 0 1475 [some (vr x), l1, l2, l3] (vr x :: st) M Q := w1 mC_0 d0_1474 rfl rfl
theorem d0_1475 : decode cL_law 1475 = .ok (.iload_n 3, 1) := by decide +kernel
theorem k0_1475 {d : Nat} {x : Int32} {l0 l1 l2 : Option PV} {st : List PV} {M : Mem} {Q : Option PV → Mem → Prop} : WP d 0 1475 [l0, l1, l2, some (vi x)] (st) M Q = WP d 0 1476 [l0, l1, l2, some (vi x)] (vi x :: st) M Q := w1 mC_0 d0_1475 rfl rfl
theorem d0_1476 : decode cL_law 1476 = .ok (.iconst 1, 1) := by decide +kernel
theorem k0_1476 {d : Nat} {l0 l1 l2 l3 : Option PV} {st : List PV} {M : Mem} {Q : Option PV → Mem → Prop} : WP d 0 1476 [l0, l1, l2, l3] (st) M Q = WP d 0 1477 [l0, l1, l2, l3] (vi 1 :: st) M Q := w_iconst mC_0 d0_1476 (by decide)
theorem d0_1477 : decode cL_law 1477 = .ok (.iadd, 1) := by decide +kernel
theorem k0_1477 {d : Nat} {l0 l1 l2 l3 : Option PV} {st : List PV} {M : Mem} {Q : Option PV → Mem → Prop} {x y : Int32} : WP d 0 1477 [l0, l1, l2, l3] (vi y :: vi x :: st) M Q = WP d 0 1478 [l0, l1, l2, l3] (vi (x + y) :: st) M Q := w1 mC_0 d0_1477 rfl rfl
theorem d0_1478 : decode cL_law 1478 = .ok (.iaload, 1) := by decide +kernel
theorem k0_1478 {d : Nat} {l0 l1 l2 l3 : Option PV} {st : List PV} {M : Mem} {Q : Option PV → Mem → Prop} {r : Nat} {j : Int32} (hk : mK M r = 13) (hj : inb j (mN M r)) : WP d 0 1478 [l0, l1, l2, l3] (vi j :: vr r :: st) M Q = WP d 0 1479 [l0, l1, l2, l3] (vi (mI M r (ix j)) :: st) M Q := w_sld mC_0 d0_1478 hk hj
theorem d0_1479 : decode cL_law 1479 = .ok (.invokevirtual 182, 3) := by decide +kernel
theorem k0_1479 {d : Nat} {l0 l1 l2 l3 : Option PV} {st : List PV} {M : Mem} {Q : Option PV → Mem → Prop} {a0 : Int32} {r : Nat} (hl : szL st ≤ 8) (hk : mK M r = 11) : WP (d + 1) 0 1479 [l0, l1, l2, l3] (vi a0 :: vr r :: st) M Q = WP d 140 0 [some (vr r), some (vi a0)] [] M (fun v M' => WP (d + 1) 0 1482 [l0, l1, l2, l3] (psh v st) M' Q) := w_callV mC_0 d0_1479 (ci := 11) rfl rfl rfl (Nat.le_of_ble_eq_true rfl) (by decide) rfl hl hk
theorem d0_1482 : decode cL_law 1482 = .ok (.aload_n 2, 1) := by decide +kernel
theorem k0_1482 {d x : Nat} {l0 l1 l3 : Option PV} {st : List PV} {M : Mem} {Q : Option PV → Mem → Prop} : WP d 0 1482 [l0, l1, some (vr x), l3] (st) M Q = WP d 0 1483 [l0, l1, some (vr x), l3] (vr x :: st) M Q := w1 mC_0 d0_1482 rfl rfl
theorem d0_1483 : decode cL_law 1483 = .ok (.aload_n 0, 1) := by decide +kernel
theorem k0_1483 {d x : Nat} {l1 l2 l3 : Option PV} {st : List PV} {M : Mem} {Q : Option PV → Mem → Prop} : WP d 0 1483 [some (vr x), l1, l2, l3] (st) M Q = WP d 0 1484 [some (vr x), l1, l2, l3] (vr x :: st) M Q := w1 mC_0 d0_1483 rfl rfl
theorem d0_1484 : decode cL_law 1484 = .ok (.iload_n 3, 1) := by decide +kernel
theorem k0_1484 {d : Nat} {x : Int32} {l0 l1 l2 : Option PV} {st : List PV} {M : Mem} {Q : Option PV → Mem → Prop} : WP d 0 1484 [l0, l1, l2, some (vi x)] (st) M Q = WP d 0 1485 [l0, l1, l2, some (vi x)] (vi x :: st) M Q := w1 mC_0 d0_1484 rfl rfl
theorem d0_1485 : decode cL_law 1485 = .ok (.iconst 1, 1) := by decide +kernel
theorem k0_1485 {d : Nat} {l0 l1 l2 l3 : Option PV} {st : List PV} {M : Mem} {Q : Option PV → Mem → Prop} : WP d 0 1485 [l0, l1, l2, l3] (st) M Q = WP d 0 1486 [l0, l1, l2, l3] (vi 1 :: st) M Q := w_iconst mC_0 d0_1485 (by decide)
theorem d0_1486 : decode cL_law 1486 = .ok (.iadd, 1) := by decide +kernel
theorem k0_1486 {d : Nat} {l0 l1 l2 l3 : Option PV} {st : List PV} {M : Mem} {Q : Option PV → Mem → Prop} {x y : Int32} : WP d 0 1486 [l0, l1, l2, l3] (vi y :: vi x :: st) M Q = WP d 0 1487 [l0, l1, l2, l3] (vi (x + y) :: st) M Q := w1 mC_0 d0_1486 rfl rfl
theorem d0_1487 : decode cL_law 1487 = .ok (.iaload, 1) := by decide +kernel
theorem k0_1487 {d : Nat} {l0 l1 l2 l3 : Option PV} {st : List PV} {M : Mem} {Q : Option PV → Mem → Prop} {r : Nat} {j : Int32} (hk : mK M r = 13) (hj : inb j (mN M r)) : WP d 0 1487 [l0, l1, l2, l3] (vi j :: vr r :: st) M Q = WP d 0 1488 [l0, l1, l2, l3] (vi (mI M r (ix j)) :: st) M Q := w_sld mC_0 d0_1487 hk hj
theorem d0_1488 : decode cL_law 1488 = .ok (.invokevirtual 185, 3) := by decide +kernel
theorem k0_1488 {d : Nat} {l0 l1 l2 l3 : Option PV} {st : List PV} {M : Mem} {Q : Option PV → Mem → Prop} {a0 : Int32} {r : Nat} (hl : szL st ≤ 8) (hk : mK M r = 12) : WP (d + 1) 0 1488 [l0, l1, l2, l3] (vi a0 :: vr r :: st) M Q = WP d 245 0 [some (vr r), some (vi a0)] [] M (fun v M' => WP (d + 1) 0 1491 [l0, l1, l2, l3] (psh v st) M' Q) := w_callV mC_0 d0_1488 (ci := 12) rfl rfl rfl (Nat.le_of_ble_eq_true rfl) (by decide) rfl hl hk
theorem d0_1491 : decode cL_law 1491 = .ok (.if_icmp .eq 5, 3) := by decide +kernel
theorem k0_1491 {d : Nat} {l0 l1 l2 l3 : Option PV} {st : List PV} {M : Mem} {Q : Option PV → Mem → Prop} {x y : Int32} : WP d 0 1491 [l0, l1, l2, l3] (vi y :: vi x :: st) M Q = (if x = y then WP d 0 1496 [l0, l1, l2, l3] (st) M Q else WP d 0 1494 [l0, l1, l2, l3] (st) M Q) := w_ic_eq mC_0 d0_1491 (by decide)
theorem d0_1494 : decode cL_law 1494 = .ok (.iconst 0, 1) := by decide +kernel
theorem k0_1494 {d : Nat} {l0 l1 l2 l3 : Option PV} {st : List PV} {M : Mem} {Q : Option PV → Mem → Prop} : WP d 0 1494 [l0, l1, l2, l3] (st) M Q = WP d 0 1495 [l0, l1, l2, l3] (vi 0 :: st) M Q := w_iconst mC_0 d0_1494 (by decide)
theorem d0_1495 : decode cL_law 1495 = .ok (.ireturn, 1) := by decide +kernel
theorem k0_1495 {d : Nat} {l0 l1 l2 l3 : Option PV} {M : Mem} {Q : Option PV → Mem → Prop} {x : Int32} (hx : x = 0 ∨ x = 1) : WP d 0 1495 [l0, l1, l2, l3] ([vi x]) M Q = Q (some (vi x)) M := w_zret mC_0 d0_1495 rfl hx
theorem d0_1496 : decode cL_law 1496 = .ok (.iinc 3 6, 3) := by decide +kernel
theorem k0_1496 {d : Nat} {x : Int32} {l0 l1 l2 : Option PV} {st : List PV} {M : Mem} {Q : Option PV → Mem → Prop} : WP d 0 1496 [l0, l1, l2, some (vi x)] (st) M Q = WP d 0 1499 [l0, l1, l2, some (vi (x + 6))] (st) M Q := w_iinc mC_0 d0_1496 rfl (by decide) rfl
theorem d0_1499 : decode cL_law 1499 = .ok (.goto (-1481), 3) := by decide +kernel
theorem k0_1499 {d : Nat} {l0 l1 l2 l3 : Option PV} {st : List PV} {M : Mem} {Q : Option PV → Mem → Prop} : WP d 0 1499 [l0, l1, l2, l3] (st) M Q = WP d 0 18 [l0, l1, l2, l3] (st) M Q := w_goto mC_0 d0_1499 (by decide)
theorem d0_1502 : decode cL_law 1502 = .ok (.iconst 1, 1) := by decide +kernel
theorem k0_1502 {d : Nat} {l0 l1 l2 l3 : Option PV} {st : List PV} {M : Mem} {Q : Option PV → Mem → Prop} : WP d 0 1502 [l0, l1, l2, l3] (st) M Q = WP d 0 1503 [l0, l1, l2, l3] (vi 1 :: st) M Q := w_iconst mC_0 d0_1502 (by decide)
theorem d0_1503 : decode cL_law 1503 = .ok (.ireturn, 1) := by decide +kernel
theorem k0_1503 {d : Nat} {l0 l1 l2 l3 : Option PV} {M : Mem} {Q : Option PV → Mem → Prop} {x : Int32} (hx : x = 0 ∨ x = 1) : WP d 0 1503 [l0, l1, l2, l3] ([vi x]) M Q = Q (some (vi x)) M := w_zret mC_0 d0_1503 rfl hx
