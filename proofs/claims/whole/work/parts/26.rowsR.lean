/-! step rows, by program (wip/whole/gen_rows.py) -/
theorem d243_0 : decode cX12_shift 0 = .ok (.iload_n 1, 1) := by decide +kernel
theorem k243_0 {d : Nat} {x : Int32} {l0 l2 l3 l4 l5 l6 : Option PV} {st : List PV} {M : Mem} {Q : Option PV → Mem → Prop} : WP d 243 0 [l0, some (vi x), l2, l3, l4, l5, l6] (st) M Q = WP d 243 1 [l0, some (vi x), l2, l3, l4, l5, l6] (vi x :: st) M Q := w1 mC_243 d243_0 rfl rfl
theorem d243_1 : decode cX12_shift 1 = .ok (.invokestatic 122, 3) := by decide +kernel
theorem k243_1 {d : Nat} {l0 l1 l2 l3 l4 l5 l6 : Option PV} {st : List PV} {M : Mem} {Q : Option PV → Mem → Prop} {a0 : Int32} (hl : szL st ≤ 8) : WP (d + 1) 243 1 [l0, l1, l2, l3, l4, l5, l6] (vi a0 :: st) M Q = WP d 149 0 [some (vi a0)] [] M (fun v M' => WP (d + 1) 243 4 [l0, l1, l2, l3, l4, l5, l6] (psh v st) M' Q) := w_callS mC_243 d243_1 rfl rfl (Nat.le_of_ble_eq_true rfl) (by decide) rfl hl
theorem d243_4 : decode cX12_shift 4 = .ok (.ifCond .eq 10, 3) := by decide +kernel
theorem k243_4 {d : Nat} {l0 l1 l2 l3 l4 l5 l6 : Option PV} {st : List PV} {M : Mem} {Q : Option PV → Mem → Prop} {x : Int32} : WP d 243 4 [l0, l1, l2, l3, l4, l5, l6] (vi x :: st) M Q = (if x = 0 then WP d 243 14 [l0, l1, l2, l3, l4, l5, l6] (st) M Q else WP d 243 7 [l0, l1, l2, l3, l4, l5, l6] (st) M Q) := w_if_eq mC_243 d243_4 (by decide)
theorem d243_7 : decode cX12_shift 7 = .ok (.iload_n 3, 1) := by decide +kernel
theorem k243_7 {d : Nat} {x : Int32} {l0 l1 l2 l4 l5 l6 : Option PV} {st : List PV} {M : Mem} {Q : Option PV → Mem → Prop} : WP d 243 7 [l0, l1, l2, some (vi x), l4, l5, l6] (st) M Q = WP d 243 8 [l0, l1, l2, some (vi x), l4, l5, l6] (vi x :: st) M Q := w1 mC_243 d243_7 rfl rfl
theorem d243_8 : decode cX12_shift 8 = .ok (.invokestatic 122, 3) := by decide +kernel
theorem k243_8 {d : Nat} {l0 l1 l2 l3 l4 l5 l6 : Option PV} {st : List PV} {M : Mem} {Q : Option PV → Mem → Prop} {a0 : Int32} (hl : szL st ≤ 8) : WP (d + 1) 243 8 [l0, l1, l2, l3, l4, l5, l6] (vi a0 :: st) M Q = WP d 149 0 [some (vi a0)] [] M (fun v M' => WP (d + 1) 243 11 [l0, l1, l2, l3, l4, l5, l6] (psh v st) M' Q) := w_callS mC_243 d243_8 rfl rfl (Nat.le_of_ble_eq_true rfl) (by decide) rfl hl
theorem d243_11 : decode cX12_shift 11 = .ok (.ifCond .ne 5, 3) := by decide +kernel
theorem k243_11 {d : Nat} {l0 l1 l2 l3 l4 l5 l6 : Option PV} {st : List PV} {M : Mem} {Q : Option PV → Mem → Prop} {x : Int32} : WP d 243 11 [l0, l1, l2, l3, l4, l5, l6] (vi x :: st) M Q = (if x = 0 then WP d 243 14 [l0, l1, l2, l3, l4, l5, l6] (st) M Q else WP d 243 16 [l0, l1, l2, l3, l4, l5, l6] (st) M Q) := w_if_ne mC_243 d243_11 (by decide)
theorem d243_14 : decode cX12_shift 14 = .ok (.iconst (-1), 1) := by decide +kernel
theorem k243_14 {d : Nat} {l0 l1 l2 l3 l4 l5 l6 : Option PV} {st : List PV} {M : Mem} {Q : Option PV → Mem → Prop} : WP d 243 14 [l0, l1, l2, l3, l4, l5, l6] (st) M Q = WP d 243 15 [l0, l1, l2, l3, l4, l5, l6] (vi (-1) :: st) M Q := w_iconst mC_243 d243_14 (by decide)
theorem d243_15 : decode cX12_shift 15 = .ok (.ireturn, 1) := by decide +kernel
theorem k243_15 {d : Nat} {l0 l1 l2 l3 l4 l5 l6 : Option PV} {M : Mem} {Q : Option PV → Mem → Prop} {x : Int32} : WP d 243 15 [l0, l1, l2, l3, l4, l5, l6] ([vi x]) M Q = Q (some (vi x)) M := w_iret mC_243 d243_15 rfl
theorem d243_16 : decode cX12_shift 16 = .ok (.aload_n 0, 1) := by decide +kernel
theorem k243_16 {d x : Nat} {l1 l2 l3 l4 l5 l6 : Option PV} {st : List PV} {M : Mem} {Q : Option PV → Mem → Prop} : WP d 243 16 [some (vr x), l1, l2, l3, l4, l5, l6] (st) M Q = WP d 243 17 [some (vr x), l1, l2, l3, l4, l5, l6] (vr x :: st) M Q := w1 mC_243 d243_16 rfl rfl
theorem d243_17 : decode cX12_shift 17 = .ok (.getfield 69, 3) := by decide +kernel
theorem k243_17 {d : Nat} {l0 l1 l2 l3 l4 l5 l6 : Option PV} {st : List PV} {M : Mem} {Q : Option PV → Mem → Prop} {r : Nat} (hk : mK M r = 12) : WP d 243 17 [l0, l1, l2, l3, l4, l5, l6] (vr r :: st) M Q = WP d 243 20 [l0, l1, l2, l3, l4, l5, l6] (vr (mR M r 35) :: st) M Q := w_getr mC_243 d243_17 fE_12_69 rfl (by rw [hk]; rfl)
theorem d243_20 : decode cX12_shift 20 = .ok (.iload_n 1, 1) := by decide +kernel
theorem k243_20 {d : Nat} {x : Int32} {l0 l2 l3 l4 l5 l6 : Option PV} {st : List PV} {M : Mem} {Q : Option PV → Mem → Prop} : WP d 243 20 [l0, some (vi x), l2, l3, l4, l5, l6] (st) M Q = WP d 243 21 [l0, some (vi x), l2, l3, l4, l5, l6] (vi x :: st) M Q := w1 mC_243 d243_20 rfl rfl
theorem d243_21 : decode cX12_shift 21 = .ok (.iaload, 1) := by decide +kernel
theorem k243_21 {d : Nat} {l0 l1 l2 l3 l4 l5 l6 : Option PV} {st : List PV} {M : Mem} {Q : Option PV → Mem → Prop} {r : Nat} {j : Int32} (hk : mK M r = 13) (hj : inb j (mN M r)) (h1 : r ≠ 1) : WP d 243 21 [l0, l1, l2, l3, l4, l5, l6] (vi j :: vr r :: st) M Q = WP d 243 22 [l0, l1, l2, l3, l4, l5, l6] (vi (mI M r (ix j)) :: st) M Q := w_iald mC_243 d243_21 (by decide) hk hj h1
theorem d243_22 : decode cX12_shift 22 = .ok (.iconst (-1), 1) := by decide +kernel
theorem k243_22 {d : Nat} {l0 l1 l2 l3 l4 l5 l6 : Option PV} {st : List PV} {M : Mem} {Q : Option PV → Mem → Prop} : WP d 243 22 [l0, l1, l2, l3, l4, l5, l6] (st) M Q = WP d 243 23 [l0, l1, l2, l3, l4, l5, l6] (vi (-1) :: st) M Q := w_iconst mC_243 d243_22 (by decide)
theorem d243_23 : decode cX12_shift 23 = .ok (.if_icmp .eq 13, 3) := by decide +kernel
theorem k243_23 {d : Nat} {l0 l1 l2 l3 l4 l5 l6 : Option PV} {st : List PV} {M : Mem} {Q : Option PV → Mem → Prop} {x y : Int32} : WP d 243 23 [l0, l1, l2, l3, l4, l5, l6] (vi y :: vi x :: st) M Q = (if x = y then WP d 243 36 [l0, l1, l2, l3, l4, l5, l6] (st) M Q else WP d 243 26 [l0, l1, l2, l3, l4, l5, l6] (st) M Q) := w_ic_eq mC_243 d243_23 (by decide)
theorem d243_26 : decode cX12_shift 26 = .ok (.aload_n 0, 1) := by decide +kernel
theorem k243_26 {d x : Nat} {l1 l2 l3 l4 l5 l6 : Option PV} {st : List PV} {M : Mem} {Q : Option PV → Mem → Prop} : WP d 243 26 [some (vr x), l1, l2, l3, l4, l5, l6] (st) M Q = WP d 243 27 [some (vr x), l1, l2, l3, l4, l5, l6] (vr x :: st) M Q := w1 mC_243 d243_26 rfl rfl
theorem d243_27 : decode cX12_shift 27 = .ok (.getfield 69, 3) := by decide +kernel
theorem k243_27 {d : Nat} {l0 l1 l2 l3 l4 l5 l6 : Option PV} {st : List PV} {M : Mem} {Q : Option PV → Mem → Prop} {r : Nat} (hk : mK M r = 12) : WP d 243 27 [l0, l1, l2, l3, l4, l5, l6] (vr r :: st) M Q = WP d 243 30 [l0, l1, l2, l3, l4, l5, l6] (vr (mR M r 35) :: st) M Q := w_getr mC_243 d243_27 fE_12_69 rfl (by rw [hk]; rfl)
theorem d243_30 : decode cX12_shift 30 = .ok (.iload_n 3, 1) := by decide +kernel
theorem k243_30 {d : Nat} {x : Int32} {l0 l1 l2 l4 l5 l6 : Option PV} {st : List PV} {M : Mem} {Q : Option PV → Mem → Prop} : WP d 243 30 [l0, l1, l2, some (vi x), l4, l5, l6] (st) M Q = WP d 243 31 [l0, l1, l2, some (vi x), l4, l5, l6] (vi x :: st) M Q := w1 mC_243 d243_30 rfl rfl
theorem d243_31 : decode cX12_shift 31 = .ok (.iaload, 1) := by decide +kernel
theorem k243_31 {d : Nat} {l0 l1 l2 l3 l4 l5 l6 : Option PV} {st : List PV} {M : Mem} {Q : Option PV → Mem → Prop} {r : Nat} {j : Int32} (hk : mK M r = 13) (hj : inb j (mN M r)) (h1 : r ≠ 1) : WP d 243 31 [l0, l1, l2, l3, l4, l5, l6] (vi j :: vr r :: st) M Q = WP d 243 32 [l0, l1, l2, l3, l4, l5, l6] (vi (mI M r (ix j)) :: st) M Q := w_iald mC_243 d243_31 (by decide) hk hj h1
theorem d243_32 : decode cX12_shift 32 = .ok (.iconst (-1), 1) := by decide +kernel
theorem k243_32 {d : Nat} {l0 l1 l2 l3 l4 l5 l6 : Option PV} {st : List PV} {M : Mem} {Q : Option PV → Mem → Prop} : WP d 243 32 [l0, l1, l2, l3, l4, l5, l6] (st) M Q = WP d 243 33 [l0, l1, l2, l3, l4, l5, l6] (vi (-1) :: st) M Q := w_iconst mC_243 d243_32 (by decide)
theorem d243_33 : decode cX12_shift 33 = .ok (.if_icmp .ne 6, 3) := by decide +kernel
theorem k243_33 {d : Nat} {l0 l1 l2 l3 l4 l5 l6 : Option PV} {st : List PV} {M : Mem} {Q : Option PV → Mem → Prop} {x y : Int32} : WP d 243 33 [l0, l1, l2, l3, l4, l5, l6] (vi y :: vi x :: st) M Q = (if x = y then WP d 243 36 [l0, l1, l2, l3, l4, l5, l6] (st) M Q else WP d 243 39 [l0, l1, l2, l3, l4, l5, l6] (st) M Q) := w_ic_ne mC_243 d243_33 (by decide)
theorem d243_36 : decode cX12_shift 36 = .ok (.bipush (-11), 2) := by decide +kernel
theorem k243_36 {d : Nat} {l0 l1 l2 l3 l4 l5 l6 : Option PV} {st : List PV} {M : Mem} {Q : Option PV → Mem → Prop} : WP d 243 36 [l0, l1, l2, l3, l4, l5, l6] (st) M Q = WP d 243 38 [l0, l1, l2, l3, l4, l5, l6] (vi (-11) :: st) M Q := w_bipush mC_243 d243_36 (by decide)
theorem d243_38 : decode cX12_shift 38 = .ok (.ireturn, 1) := by decide +kernel
theorem k243_38 {d : Nat} {l0 l1 l2 l3 l4 l5 l6 : Option PV} {M : Mem} {Q : Option PV → Mem → Prop} {x : Int32} : WP d 243 38 [l0, l1, l2, l3, l4, l5, l6] ([vi x]) M Q = Q (some (vi x)) M := w_iret mC_243 d243_38 rfl
theorem d243_39 : decode cX12_shift 39 = .ok (.aload_n 0, 1) := by decide +kernel
theorem k243_39 {d x : Nat} {l1 l2 l3 l4 l5 l6 : Option PV} {st : List PV} {M : Mem} {Q : Option PV → Mem → Prop} : WP d 243 39 [some (vr x), l1, l2, l3, l4, l5, l6] (st) M Q = WP d 243 40 [some (vr x), l1, l2, l3, l4, l5, l6] (vr x :: st) M Q := w1 mC_243 d243_39 rfl rfl
theorem d243_40 : decode cX12_shift 40 = .ok (.iload_n 1, 1) := by decide +kernel
theorem k243_40 {d : Nat} {x : Int32} {l0 l2 l3 l4 l5 l6 : Option PV} {st : List PV} {M : Mem} {Q : Option PV → Mem → Prop} : WP d 243 40 [l0, some (vi x), l2, l3, l4, l5, l6] (st) M Q = WP d 243 41 [l0, some (vi x), l2, l3, l4, l5, l6] (vi x :: st) M Q := w1 mC_243 d243_40 rfl rfl
theorem d243_41 : decode cX12_shift 41 = .ok (.invokevirtual 365, 3) := by decide +kernel
theorem k243_41 {d : Nat} {l0 l1 l2 l3 l4 l5 l6 : Option PV} {st : List PV} {M : Mem} {Q : Option PV → Mem → Prop} {a0 : Int32} {r : Nat} (hl : szL st ≤ 8) (hk : mK M r = 12) : WP (d + 1) 243 41 [l0, l1, l2, l3, l4, l5, l6] (vi a0 :: vr r :: st) M Q = WP d 239 0 [some (vr r), some (vi a0)] [] M (fun v M' => WP (d + 1) 243 44 [l0, l1, l2, l3, l4, l5, l6] (psh v st) M' Q) := w_callV mC_243 d243_41 (ci := 12) rfl rfl rfl (Nat.le_of_ble_eq_true rfl) (by decide) rfl hl hk
theorem d243_44 : decode cX12_shift 44 = .ok (.ifCond .eq 26, 3) := by decide +kernel
theorem k243_44 {d : Nat} {l0 l1 l2 l3 l4 l5 l6 : Option PV} {st : List PV} {M : Mem} {Q : Option PV → Mem → Prop} {x : Int32} : WP d 243 44 [l0, l1, l2, l3, l4, l5, l6] (vi x :: st) M Q = (if x = 0 then WP d 243 70 [l0, l1, l2, l3, l4, l5, l6] (st) M Q else WP d 243 47 [l0, l1, l2, l3, l4, l5, l6] (st) M Q) := w_if_eq mC_243 d243_44 (by decide)
theorem d243_47 : decode cX12_shift 47 = .ok (.aload_n 0, 1) := by decide +kernel
theorem k243_47 {d x : Nat} {l1 l2 l3 l4 l5 l6 : Option PV} {st : List PV} {M : Mem} {Q : Option PV → Mem → Prop} : WP d 243 47 [some (vr x), l1, l2, l3, l4, l5, l6] (st) M Q = WP d 243 48 [some (vr x), l1, l2, l3, l4, l5, l6] (vr x :: st) M Q := w1 mC_243 d243_47 rfl rfl
theorem d243_48 : decode cX12_shift 48 = .ok (.iload_n 3, 1) := by decide +kernel
theorem k243_48 {d : Nat} {x : Int32} {l0 l1 l2 l4 l5 l6 : Option PV} {st : List PV} {M : Mem} {Q : Option PV → Mem → Prop} : WP d 243 48 [l0, l1, l2, some (vi x), l4, l5, l6] (st) M Q = WP d 243 49 [l0, l1, l2, some (vi x), l4, l5, l6] (vi x :: st) M Q := w1 mC_243 d243_48 rfl rfl
theorem d243_49 : decode cX12_shift 49 = .ok (.invokevirtual 365, 3) := by decide +kernel
theorem k243_49 {d : Nat} {l0 l1 l2 l3 l4 l5 l6 : Option PV} {st : List PV} {M : Mem} {Q : Option PV → Mem → Prop} {a0 : Int32} {r : Nat} (hl : szL st ≤ 8) (hk : mK M r = 12) : WP (d + 1) 243 49 [l0, l1, l2, l3, l4, l5, l6] (vi a0 :: vr r :: st) M Q = WP d 239 0 [some (vr r), some (vi a0)] [] M (fun v M' => WP (d + 1) 243 52 [l0, l1, l2, l3, l4, l5, l6] (psh v st) M' Q) := w_callV mC_243 d243_49 (ci := 12) rfl rfl rfl (Nat.le_of_ble_eq_true rfl) (by decide) rfl hl hk
theorem d243_52 : decode cX12_shift 52 = .ok (.ifCond .eq 18, 3) := by decide +kernel
theorem k243_52 {d : Nat} {l0 l1 l2 l3 l4 l5 l6 : Option PV} {st : List PV} {M : Mem} {Q : Option PV → Mem → Prop} {x : Int32} : WP d 243 52 [l0, l1, l2, l3, l4, l5, l6] (vi x :: st) M Q = (if x = 0 then WP d 243 70 [l0, l1, l2, l3, l4, l5, l6] (st) M Q else WP d 243 55 [l0, l1, l2, l3, l4, l5, l6] (st) M Q) := w_if_eq mC_243 d243_52 (by decide)
theorem d243_55 : decode cX12_shift 55 = .ok (.aload_n 0, 1) := by decide +kernel
theorem k243_55 {d x : Nat} {l1 l2 l3 l4 l5 l6 : Option PV} {st : List PV} {M : Mem} {Q : Option PV → Mem → Prop} : WP d 243 55 [some (vr x), l1, l2, l3, l4, l5, l6] (st) M Q = WP d 243 56 [some (vr x), l1, l2, l3, l4, l5, l6] (vr x :: st) M Q := w1 mC_243 d243_55 rfl rfl
theorem d243_56 : decode cX12_shift 56 = .ok (.getfield 69, 3) := by decide +kernel
theorem k243_56 {d : Nat} {l0 l1 l2 l3 l4 l5 l6 : Option PV} {st : List PV} {M : Mem} {Q : Option PV → Mem → Prop} {r : Nat} (hk : mK M r = 12) : WP d 243 56 [l0, l1, l2, l3, l4, l5, l6] (vr r :: st) M Q = WP d 243 59 [l0, l1, l2, l3, l4, l5, l6] (vr (mR M r 35) :: st) M Q := w_getr mC_243 d243_56 fE_12_69 rfl (by rw [hk]; rfl)
theorem d243_59 : decode cX12_shift 59 = .ok (.iload_n 1, 1) := by decide +kernel
theorem k243_59 {d : Nat} {x : Int32} {l0 l2 l3 l4 l5 l6 : Option PV} {st : List PV} {M : Mem} {Q : Option PV → Mem → Prop} : WP d 243 59 [l0, some (vi x), l2, l3, l4, l5, l6] (st) M Q = WP d 243 60 [l0, some (vi x), l2, l3, l4, l5, l6] (vi x :: st) M Q := w1 mC_243 d243_59 rfl rfl
theorem d243_60 : decode cX12_shift 60 = .ok (.iaload, 1) := by decide +kernel
theorem k243_60 {d : Nat} {l0 l1 l2 l3 l4 l5 l6 : Option PV} {st : List PV} {M : Mem} {Q : Option PV → Mem → Prop} {r : Nat} {j : Int32} (hk : mK M r = 13) (hj : inb j (mN M r)) (h1 : r ≠ 1) : WP d 243 60 [l0, l1, l2, l3, l4, l5, l6] (vi j :: vr r :: st) M Q = WP d 243 61 [l0, l1, l2, l3, l4, l5, l6] (vi (mI M r (ix j)) :: st) M Q := w_iald mC_243 d243_60 (by decide) hk hj h1
theorem d243_61 : decode cX12_shift 61 = .ok (.aload_n 0, 1) := by decide +kernel
theorem k243_61 {d x : Nat} {l1 l2 l3 l4 l5 l6 : Option PV} {st : List PV} {M : Mem} {Q : Option PV → Mem → Prop} : WP d 243 61 [some (vr x), l1, l2, l3, l4, l5, l6] (st) M Q = WP d 243 62 [some (vr x), l1, l2, l3, l4, l5, l6] (vr x :: st) M Q := w1 mC_243 d243_61 rfl rfl
theorem d243_62 : decode cX12_shift 62 = .ok (.getfield 69, 3) := by decide +kernel
theorem k243_62 {d : Nat} {l0 l1 l2 l3 l4 l5 l6 : Option PV} {st : List PV} {M : Mem} {Q : Option PV → Mem → Prop} {r : Nat} (hk : mK M r = 12) : WP d 243 62 [l0, l1, l2, l3, l4, l5, l6] (vr r :: st) M Q = WP d 243 65 [l0, l1, l2, l3, l4, l5, l6] (vr (mR M r 35) :: st) M Q := w_getr mC_243 d243_62 fE_12_69 rfl (by rw [hk]; rfl)
theorem d243_65 : decode cX12_shift 65 = .ok (.iload_n 3, 1) := by decide +kernel
theorem k243_65 {d : Nat} {x : Int32} {l0 l1 l2 l4 l5 l6 : Option PV} {st : List PV} {M : Mem} {Q : Option PV → Mem → Prop} : WP d 243 65 [l0, l1, l2, some (vi x), l4, l5, l6] (st) M Q = WP d 243 66 [l0, l1, l2, some (vi x), l4, l5, l6] (vi x :: st) M Q := w1 mC_243 d243_65 rfl rfl
theorem d243_66 : decode cX12_shift 66 = .ok (.iaload, 1) := by decide +kernel
theorem k243_66 {d : Nat} {l0 l1 l2 l3 l4 l5 l6 : Option PV} {st : List PV} {M : Mem} {Q : Option PV → Mem → Prop} {r : Nat} {j : Int32} (hk : mK M r = 13) (hj : inb j (mN M r)) (h1 : r ≠ 1) : WP d 243 66 [l0, l1, l2, l3, l4, l5, l6] (vi j :: vr r :: st) M Q = WP d 243 67 [l0, l1, l2, l3, l4, l5, l6] (vi (mI M r (ix j)) :: st) M Q := w_iald mC_243 d243_66 (by decide) hk hj h1
theorem d243_67 : decode cX12_shift 67 = .ok (.if_icmp .eq 6, 3) := by decide +kernel
theorem k243_67 {d : Nat} {l0 l1 l2 l3 l4 l5 l6 : Option PV} {st : List PV} {M : Mem} {Q : Option PV → Mem → Prop} {x y : Int32} : WP d 243 67 [l0, l1, l2, l3, l4, l5, l6] (vi y :: vi x :: st) M Q = (if x = y then WP d 243 73 [l0, l1, l2, l3, l4, l5, l6] (st) M Q else WP d 243 70 [l0, l1, l2, l3, l4, l5, l6] (st) M Q) := w_ic_eq mC_243 d243_67 (by decide)
theorem d243_70 : decode cX12_shift 70 = .ok (.bipush (-12), 2) := by decide +kernel
theorem k243_70 {d : Nat} {l0 l1 l2 l3 l4 l5 l6 : Option PV} {st : List PV} {M : Mem} {Q : Option PV → Mem → Prop} : WP d 243 70 [l0, l1, l2, l3, l4, l5, l6] (st) M Q = WP d 243 72 [l0, l1, l2, l3, l4, l5, l6] (vi (-12) :: st) M Q := w_bipush mC_243 d243_70 (by decide)
theorem d243_72 : decode cX12_shift 72 = .ok (.ireturn, 1) := by decide +kernel
theorem k243_72 {d : Nat} {l0 l1 l2 l3 l4 l5 l6 : Option PV} {M : Mem} {Q : Option PV → Mem → Prop} {x : Int32} : WP d 243 72 [l0, l1, l2, l3, l4, l5, l6] ([vi x]) M Q = Q (some (vi x)) M := w_iret mC_243 d243_72 rfl
theorem d243_73 : decode cX12_shift 73 = .ok (.iload 5, 2) := by decide +kernel
theorem k243_73 {d : Nat} {x : Int32} {l0 l1 l2 l3 l4 l6 : Option PV} {st : List PV} {M : Mem} {Q : Option PV → Mem → Prop} : WP d 243 73 [l0, l1, l2, l3, l4, some (vi x), l6] (st) M Q = WP d 243 75 [l0, l1, l2, l3, l4, some (vi x), l6] (vi x :: st) M Q := w1 mC_243 d243_73 rfl rfl
theorem d243_75 : decode cX12_shift 75 = .ok (.ifCond .lt 47, 3) := by decide +kernel
theorem k243_75 {d : Nat} {l0 l1 l2 l3 l4 l5 l6 : Option PV} {st : List PV} {M : Mem} {Q : Option PV → Mem → Prop} {x : Int32} : WP d 243 75 [l0, l1, l2, l3, l4, l5, l6] (vi x :: st) M Q = (if x < 0 then WP d 243 122 [l0, l1, l2, l3, l4, l5, l6] (st) M Q else WP d 243 78 [l0, l1, l2, l3, l4, l5, l6] (st) M Q) := w_if_lt mC_243 d243_75 (by decide)
theorem d243_78 : decode cX12_shift 78 = .ok (.iload_n 2, 1) := by decide +kernel
theorem k243_78 {d : Nat} {x : Int32} {l0 l1 l3 l4 l5 l6 : Option PV} {st : List PV} {M : Mem} {Q : Option PV → Mem → Prop} : WP d 243 78 [l0, l1, some (vi x), l3, l4, l5, l6] (st) M Q = WP d 243 79 [l0, l1, some (vi x), l3, l4, l5, l6] (vi x :: st) M Q := w1 mC_243 d243_78 rfl rfl
theorem d243_79 : decode cX12_shift 79 = .ok (.ifCond .lt 43, 3) := by decide +kernel
theorem k243_79 {d : Nat} {l0 l1 l2 l3 l4 l5 l6 : Option PV} {st : List PV} {M : Mem} {Q : Option PV → Mem → Prop} {x : Int32} : WP d 243 79 [l0, l1, l2, l3, l4, l5, l6] (vi x :: st) M Q = (if x < 0 then WP d 243 122 [l0, l1, l2, l3, l4, l5, l6] (st) M Q else WP d 243 82 [l0, l1, l2, l3, l4, l5, l6] (st) M Q) := w_if_lt mC_243 d243_79 (by decide)
theorem d243_82 : decode cX12_shift 82 = .ok (.iload 4, 2) := by decide +kernel
theorem k243_82 {d : Nat} {x : Int32} {l0 l1 l2 l3 l5 l6 : Option PV} {st : List PV} {M : Mem} {Q : Option PV → Mem → Prop} : WP d 243 82 [l0, l1, l2, l3, some (vi x), l5, l6] (st) M Q = WP d 243 84 [l0, l1, l2, l3, some (vi x), l5, l6] (vi x :: st) M Q := w1 mC_243 d243_82 rfl rfl
theorem d243_84 : decode cX12_shift 84 = .ok (.ifCond .lt 38, 3) := by decide +kernel
theorem k243_84 {d : Nat} {l0 l1 l2 l3 l4 l5 l6 : Option PV} {st : List PV} {M : Mem} {Q : Option PV → Mem → Prop} {x : Int32} : WP d 243 84 [l0, l1, l2, l3, l4, l5, l6] (vi x :: st) M Q = (if x < 0 then WP d 243 122 [l0, l1, l2, l3, l4, l5, l6] (st) M Q else WP d 243 87 [l0, l1, l2, l3, l4, l5, l6] (st) M Q) := w_if_lt mC_243 d243_84 (by decide)
theorem d243_87 : decode cX12_shift 87 = .ok (.iload_n 2, 1) := by decide +kernel
theorem k243_87 {d : Nat} {x : Int32} {l0 l1 l3 l4 l5 l6 : Option PV} {st : List PV} {M : Mem} {Q : Option PV → Mem → Prop} : WP d 243 87 [l0, l1, some (vi x), l3, l4, l5, l6] (st) M Q = WP d 243 88 [l0, l1, some (vi x), l3, l4, l5, l6] (vi x :: st) M Q := w1 mC_243 d243_87 rfl rfl
theorem d243_88 : decode cX12_shift 88 = .ok (.i2l, 1) := by decide +kernel
theorem k243_88 {d : Nat} {l0 l1 l2 l3 l4 l5 l6 : Option PV} {st : List PV} {M : Mem} {Q : Option PV → Mem → Prop} {x : Int32} : WP d 243 88 [l0, l1, l2, l3, l4, l5, l6] (vi x :: st) M Q = WP d 243 89 [l0, l1, l2, l3, l4, l5, l6] (vl x.toInt64 :: st) M Q := w1 mC_243 d243_88 rfl rfl
theorem d243_89 : decode cX12_shift 89 = .ok (.iload 5, 2) := by decide +kernel
theorem k243_89 {d : Nat} {x : Int32} {l0 l1 l2 l3 l4 l6 : Option PV} {st : List PV} {M : Mem} {Q : Option PV → Mem → Prop} : WP d 243 89 [l0, l1, l2, l3, l4, some (vi x), l6] (st) M Q = WP d 243 91 [l0, l1, l2, l3, l4, some (vi x), l6] (vi x :: st) M Q := w1 mC_243 d243_89 rfl rfl
theorem d243_91 : decode cX12_shift 91 = .ok (.i2l, 1) := by decide +kernel
theorem k243_91 {d : Nat} {l0 l1 l2 l3 l4 l5 l6 : Option PV} {st : List PV} {M : Mem} {Q : Option PV → Mem → Prop} {x : Int32} : WP d 243 91 [l0, l1, l2, l3, l4, l5, l6] (vi x :: st) M Q = WP d 243 92 [l0, l1, l2, l3, l4, l5, l6] (vl x.toInt64 :: st) M Q := w1 mC_243 d243_91 rfl rfl
theorem d243_92 : decode cX12_shift 92 = .ok (.ladd, 1) := by decide +kernel
theorem k243_92 {d : Nat} {l0 l1 l2 l3 l4 l5 l6 : Option PV} {st : List PV} {M : Mem} {Q : Option PV → Mem → Prop} {x y : Int64} : WP d 243 92 [l0, l1, l2, l3, l4, l5, l6] (vl y :: vl x :: st) M Q = WP d 243 93 [l0, l1, l2, l3, l4, l5, l6] (vl (x + y) :: st) M Q := w1 mC_243 d243_92 rfl rfl
theorem d243_93 : decode cX12_shift 93 = .ok (.aload_n 0, 1) := by decide +kernel
theorem k243_93 {d x : Nat} {l1 l2 l3 l4 l5 l6 : Option PV} {st : List PV} {M : Mem} {Q : Option PV → Mem → Prop} : WP d 243 93 [some (vr x), l1, l2, l3, l4, l5, l6] (st) M Q = WP d 243 94 [some (vr x), l1, l2, l3, l4, l5, l6] (vr x :: st) M Q := w1 mC_243 d243_93 rfl rfl
theorem d243_94 : decode cX12_shift 94 = .ok (.getfield 72, 3) := by decide +kernel
theorem k243_94 {d : Nat} {l0 l1 l2 l3 l4 l5 l6 : Option PV} {st : List PV} {M : Mem} {Q : Option PV → Mem → Prop} {r : Nat} (hk : mK M r = 12) : WP d 243 94 [l0, l1, l2, l3, l4, l5, l6] (vr r :: st) M Q = WP d 243 97 [l0, l1, l2, l3, l4, l5, l6] (vr (mR M r 36) :: st) M Q := w_getr mC_243 d243_94 fE_12_72 rfl (by rw [hk]; rfl)
theorem d243_97 : decode cX12_shift 97 = .ok (.iload_n 1, 1) := by decide +kernel
theorem k243_97 {d : Nat} {x : Int32} {l0 l2 l3 l4 l5 l6 : Option PV} {st : List PV} {M : Mem} {Q : Option PV → Mem → Prop} : WP d 243 97 [l0, some (vi x), l2, l3, l4, l5, l6] (st) M Q = WP d 243 98 [l0, some (vi x), l2, l3, l4, l5, l6] (vi x :: st) M Q := w1 mC_243 d243_97 rfl rfl
theorem d243_98 : decode cX12_shift 98 = .ok (.iaload, 1) := by decide +kernel
theorem k243_98 {d : Nat} {l0 l1 l2 l3 l4 l5 l6 : Option PV} {st : List PV} {M : Mem} {Q : Option PV → Mem → Prop} {r : Nat} {j : Int32} (hk : mK M r = 13) (hj : inb j (mN M r)) (h1 : r ≠ 1) : WP d 243 98 [l0, l1, l2, l3, l4, l5, l6] (vi j :: vr r :: st) M Q = WP d 243 99 [l0, l1, l2, l3, l4, l5, l6] (vi (mI M r (ix j)) :: st) M Q := w_iald mC_243 d243_98 (by decide) hk hj h1
theorem d243_99 : decode cX12_shift 99 = .ok (.i2l, 1) := by decide +kernel
theorem k243_99 {d : Nat} {l0 l1 l2 l3 l4 l5 l6 : Option PV} {st : List PV} {M : Mem} {Q : Option PV → Mem → Prop} {x : Int32} : WP d 243 99 [l0, l1, l2, l3, l4, l5, l6] (vi x :: st) M Q = WP d 243 100 [l0, l1, l2, l3, l4, l5, l6] (vl x.toInt64 :: st) M Q := w1 mC_243 d243_99 rfl rfl
theorem d243_100 : decode cX12_shift 100 = .ok (.lcmp, 1) := by decide +kernel
theorem k243_100 {d : Nat} {l0 l1 l2 l3 l4 l5 l6 : Option PV} {st : List PV} {M : Mem} {Q : Option PV → Mem → Prop} {x y : Int64} : WP d 243 100 [l0, l1, l2, l3, l4, l5, l6] (vl y :: vl x :: st) M Q = WP d 243 101 [l0, l1, l2, l3, l4, l5, l6] (vi (lg_cmp x y) :: st) M Q := w1 mC_243 d243_100 rfl rfl
theorem d243_101 : decode cX12_shift 101 = .ok (.ifCond .gt 21, 3) := by decide +kernel
theorem k243_101 {d : Nat} {l0 l1 l2 l3 l4 l5 l6 : Option PV} {st : List PV} {M : Mem} {Q : Option PV → Mem → Prop} {x : Int32} : WP d 243 101 [l0, l1, l2, l3, l4, l5, l6] (vi x :: st) M Q = (if 0 < x then WP d 243 122 [l0, l1, l2, l3, l4, l5, l6] (st) M Q else WP d 243 104 [l0, l1, l2, l3, l4, l5, l6] (st) M Q) := w_if_gt mC_243 d243_101 (by decide)
theorem d243_104 : decode cX12_shift 104 = .ok (.iload 4, 2) := by decide +kernel
theorem k243_104 {d : Nat} {x : Int32} {l0 l1 l2 l3 l5 l6 : Option PV} {st : List PV} {M : Mem} {Q : Option PV → Mem → Prop} : WP d 243 104 [l0, l1, l2, l3, some (vi x), l5, l6] (st) M Q = WP d 243 106 [l0, l1, l2, l3, some (vi x), l5, l6] (vi x :: st) M Q := w1 mC_243 d243_104 rfl rfl
theorem d243_106 : decode cX12_shift 106 = .ok (.i2l, 1) := by decide +kernel
theorem k243_106 {d : Nat} {l0 l1 l2 l3 l4 l5 l6 : Option PV} {st : List PV} {M : Mem} {Q : Option PV → Mem → Prop} {x : Int32} : WP d 243 106 [l0, l1, l2, l3, l4, l5, l6] (vi x :: st) M Q = WP d 243 107 [l0, l1, l2, l3, l4, l5, l6] (vl x.toInt64 :: st) M Q := w1 mC_243 d243_106 rfl rfl
theorem d243_107 : decode cX12_shift 107 = .ok (.iload 5, 2) := by decide +kernel
theorem k243_107 {d : Nat} {x : Int32} {l0 l1 l2 l3 l4 l6 : Option PV} {st : List PV} {M : Mem} {Q : Option PV → Mem → Prop} : WP d 243 107 [l0, l1, l2, l3, l4, some (vi x), l6] (st) M Q = WP d 243 109 [l0, l1, l2, l3, l4, some (vi x), l6] (vi x :: st) M Q := w1 mC_243 d243_107 rfl rfl
theorem d243_109 : decode cX12_shift 109 = .ok (.i2l, 1) := by decide +kernel
theorem k243_109 {d : Nat} {l0 l1 l2 l3 l4 l5 l6 : Option PV} {st : List PV} {M : Mem} {Q : Option PV → Mem → Prop} {x : Int32} : WP d 243 109 [l0, l1, l2, l3, l4, l5, l6] (vi x :: st) M Q = WP d 243 110 [l0, l1, l2, l3, l4, l5, l6] (vl x.toInt64 :: st) M Q := w1 mC_243 d243_109 rfl rfl
theorem d243_110 : decode cX12_shift 110 = .ok (.ladd, 1) := by decide +kernel
theorem k243_110 {d : Nat} {l0 l1 l2 l3 l4 l5 l6 : Option PV} {st : List PV} {M : Mem} {Q : Option PV → Mem → Prop} {x y : Int64} : WP d 243 110 [l0, l1, l2, l3, l4, l5, l6] (vl y :: vl x :: st) M Q = WP d 243 111 [l0, l1, l2, l3, l4, l5, l6] (vl (x + y) :: st) M Q := w1 mC_243 d243_110 rfl rfl
theorem d243_111 : decode cX12_shift 111 = .ok (.aload_n 0, 1) := by decide +kernel
theorem k243_111 {d x : Nat} {l1 l2 l3 l4 l5 l6 : Option PV} {st : List PV} {M : Mem} {Q : Option PV → Mem → Prop} : WP d 243 111 [some (vr x), l1, l2, l3, l4, l5, l6] (st) M Q = WP d 243 112 [some (vr x), l1, l2, l3, l4, l5, l6] (vr x :: st) M Q := w1 mC_243 d243_111 rfl rfl
theorem d243_112 : decode cX12_shift 112 = .ok (.getfield 72, 3) := by decide +kernel
theorem k243_112 {d : Nat} {l0 l1 l2 l3 l4 l5 l6 : Option PV} {st : List PV} {M : Mem} {Q : Option PV → Mem → Prop} {r : Nat} (hk : mK M r = 12) : WP d 243 112 [l0, l1, l2, l3, l4, l5, l6] (vr r :: st) M Q = WP d 243 115 [l0, l1, l2, l3, l4, l5, l6] (vr (mR M r 36) :: st) M Q := w_getr mC_243 d243_112 fE_12_72 rfl (by rw [hk]; rfl)
theorem d243_115 : decode cX12_shift 115 = .ok (.iload_n 3, 1) := by decide +kernel
theorem k243_115 {d : Nat} {x : Int32} {l0 l1 l2 l4 l5 l6 : Option PV} {st : List PV} {M : Mem} {Q : Option PV → Mem → Prop} : WP d 243 115 [l0, l1, l2, some (vi x), l4, l5, l6] (st) M Q = WP d 243 116 [l0, l1, l2, some (vi x), l4, l5, l6] (vi x :: st) M Q := w1 mC_243 d243_115 rfl rfl
theorem d243_116 : decode cX12_shift 116 = .ok (.iaload, 1) := by decide +kernel
theorem k243_116 {d : Nat} {l0 l1 l2 l3 l4 l5 l6 : Option PV} {st : List PV} {M : Mem} {Q : Option PV → Mem → Prop} {r : Nat} {j : Int32} (hk : mK M r = 13) (hj : inb j (mN M r)) (h1 : r ≠ 1) : WP d 243 116 [l0, l1, l2, l3, l4, l5, l6] (vi j :: vr r :: st) M Q = WP d 243 117 [l0, l1, l2, l3, l4, l5, l6] (vi (mI M r (ix j)) :: st) M Q := w_iald mC_243 d243_116 (by decide) hk hj h1
theorem d243_117 : decode cX12_shift 117 = .ok (.i2l, 1) := by decide +kernel
theorem k243_117 {d : Nat} {l0 l1 l2 l3 l4 l5 l6 : Option PV} {st : List PV} {M : Mem} {Q : Option PV → Mem → Prop} {x : Int32} : WP d 243 117 [l0, l1, l2, l3, l4, l5, l6] (vi x :: st) M Q = WP d 243 118 [l0, l1, l2, l3, l4, l5, l6] (vl x.toInt64 :: st) M Q := w1 mC_243 d243_117 rfl rfl
theorem d243_118 : decode cX12_shift 118 = .ok (.lcmp, 1) := by decide +kernel
theorem k243_118 {d : Nat} {l0 l1 l2 l3 l4 l5 l6 : Option PV} {st : List PV} {M : Mem} {Q : Option PV → Mem → Prop} {x y : Int64} : WP d 243 118 [l0, l1, l2, l3, l4, l5, l6] (vl y :: vl x :: st) M Q = WP d 243 119 [l0, l1, l2, l3, l4, l5, l6] (vi (lg_cmp x y) :: st) M Q := w1 mC_243 d243_118 rfl rfl
theorem d243_119 : decode cX12_shift 119 = .ok (.ifCond .le 6, 3) := by decide +kernel
theorem k243_119 {d : Nat} {l0 l1 l2 l3 l4 l5 l6 : Option PV} {st : List PV} {M : Mem} {Q : Option PV → Mem → Prop} {x : Int32} : WP d 243 119 [l0, l1, l2, l3, l4, l5, l6] (vi x :: st) M Q = (if x ≤ 0 then WP d 243 125 [l0, l1, l2, l3, l4, l5, l6] (st) M Q else WP d 243 122 [l0, l1, l2, l3, l4, l5, l6] (st) M Q) := w_if_le mC_243 d243_119 (by decide)
theorem d243_122 : decode cX12_shift 122 = .ok (.bipush (-13), 2) := by decide +kernel
theorem k243_122 {d : Nat} {l0 l1 l2 l3 l4 l5 l6 : Option PV} {st : List PV} {M : Mem} {Q : Option PV → Mem → Prop} : WP d 243 122 [l0, l1, l2, l3, l4, l5, l6] (st) M Q = WP d 243 124 [l0, l1, l2, l3, l4, l5, l6] (vi (-13) :: st) M Q := w_bipush mC_243 d243_122 (by decide)
theorem d243_124 : decode cX12_shift 124 = .ok (.ireturn, 1) := by decide +kernel
theorem k243_124 {d : Nat} {l0 l1 l2 l3 l4 l5 l6 : Option PV} {M : Mem} {Q : Option PV → Mem → Prop} {x : Int32} : WP d 243 124 [l0, l1, l2, l3, l4, l5, l6] ([vi x]) M Q = Q (some (vi x)) M := w_iret mC_243 d243_124 rfl
theorem d243_125 : decode cX12_shift 125 = .ok (.iload_n 1, 1) := by decide +kernel
theorem k243_125 {d : Nat} {x : Int32} {l0 l2 l3 l4 l5 l6 : Option PV} {st : List PV} {M : Mem} {Q : Option PV → Mem → Prop} : WP d 243 125 [l0, some (vi x), l2, l3, l4, l5, l6] (st) M Q = WP d 243 126 [l0, some (vi x), l2, l3, l4, l5, l6] (vi x :: st) M Q := w1 mC_243 d243_125 rfl rfl
theorem d243_126 : decode cX12_shift 126 = .ok (.iload_n 3, 1) := by decide +kernel
theorem k243_126 {d : Nat} {x : Int32} {l0 l1 l2 l4 l5 l6 : Option PV} {st : List PV} {M : Mem} {Q : Option PV → Mem → Prop} : WP d 243 126 [l0, l1, l2, some (vi x), l4, l5, l6] (st) M Q = WP d 243 127 [l0, l1, l2, some (vi x), l4, l5, l6] (vi x :: st) M Q := w1 mC_243 d243_126 rfl rfl
theorem d243_127 : decode cX12_shift 127 = .ok (.if_icmp .ne 58, 3) := by decide +kernel
theorem k243_127 {d : Nat} {l0 l1 l2 l3 l4 l5 l6 : Option PV} {st : List PV} {M : Mem} {Q : Option PV → Mem → Prop} {x y : Int32} : WP d 243 127 [l0, l1, l2, l3, l4, l5, l6] (vi y :: vi x :: st) M Q = (if x = y then WP d 243 130 [l0, l1, l2, l3, l4, l5, l6] (st) M Q else WP d 243 185 [l0, l1, l2, l3, l4, l5, l6] (st) M Q) := w_ic_ne mC_243 d243_127 (by decide)
theorem d243_130 : decode cX12_shift 130 = .ok (.iload_n 2, 1) := by decide +kernel
theorem k243_130 {d : Nat} {x : Int32} {l0 l1 l3 l4 l5 l6 : Option PV} {st : List PV} {M : Mem} {Q : Option PV → Mem → Prop} : WP d 243 130 [l0, l1, some (vi x), l3, l4, l5, l6] (st) M Q = WP d 243 131 [l0, l1, some (vi x), l3, l4, l5, l6] (vi x :: st) M Q := w1 mC_243 d243_130 rfl rfl
theorem d243_131 : decode cX12_shift 131 = .ok (.iload 4, 2) := by decide +kernel
theorem k243_131 {d : Nat} {x : Int32} {l0 l1 l2 l3 l5 l6 : Option PV} {st : List PV} {M : Mem} {Q : Option PV → Mem → Prop} : WP d 243 131 [l0, l1, l2, l3, some (vi x), l5, l6] (st) M Q = WP d 243 133 [l0, l1, l2, l3, some (vi x), l5, l6] (vi x :: st) M Q := w1 mC_243 d243_131 rfl rfl
theorem d243_133 : decode cX12_shift 133 = .ok (.if_icmp .ge 52, 3) := by decide +kernel
theorem k243_133 {d : Nat} {l0 l1 l2 l3 l4 l5 l6 : Option PV} {st : List PV} {M : Mem} {Q : Option PV → Mem → Prop} {x y : Int32} : WP d 243 133 [l0, l1, l2, l3, l4, l5, l6] (vi y :: vi x :: st) M Q = (if y ≤ x then WP d 243 185 [l0, l1, l2, l3, l4, l5, l6] (st) M Q else WP d 243 136 [l0, l1, l2, l3, l4, l5, l6] (st) M Q) := w_ic_ge mC_243 d243_133 (by decide)
theorem d243_136 : decode cX12_shift 136 = .ok (.iload 5, 2) := by decide +kernel
theorem k243_136 {d : Nat} {x : Int32} {l0 l1 l2 l3 l4 l6 : Option PV} {st : List PV} {M : Mem} {Q : Option PV → Mem → Prop} : WP d 243 136 [l0, l1, l2, l3, l4, some (vi x), l6] (st) M Q = WP d 243 138 [l0, l1, l2, l3, l4, some (vi x), l6] (vi x :: st) M Q := w1 mC_243 d243_136 rfl rfl
theorem d243_138 : decode cX12_shift 138 = .ok (.iconst 1, 1) := by decide +kernel
theorem k243_138 {d : Nat} {l0 l1 l2 l3 l4 l5 l6 : Option PV} {st : List PV} {M : Mem} {Q : Option PV → Mem → Prop} : WP d 243 138 [l0, l1, l2, l3, l4, l5, l6] (st) M Q = WP d 243 139 [l0, l1, l2, l3, l4, l5, l6] (vi 1 :: st) M Q := w_iconst mC_243 d243_138 (by decide)
theorem d243_139 : decode cX12_shift 139 = .ok (.isub, 1) := by decide +kernel
theorem k243_139 {d : Nat} {l0 l1 l2 l3 l4 l5 l6 : Option PV} {st : List PV} {M : Mem} {Q : Option PV → Mem → Prop} {x y : Int32} : WP d 243 139 [l0, l1, l2, l3, l4, l5, l6] (vi y :: vi x :: st) M Q = WP d 243 140 [l0, l1, l2, l3, l4, l5, l6] (vi (x - y) :: st) M Q := w1 mC_243 d243_139 rfl rfl
theorem d243_140 : decode cX12_shift 140 = .ok (.istore 6, 2) := by decide +kernel
theorem k243_140 {d : Nat} {l0 l1 l2 l3 l4 l5 l6 : Option PV} {st : List PV} {M : Mem} {Q : Option PV → Mem → Prop} {x : Int32} : WP d 243 140 [l0, l1, l2, l3, l4, l5, l6] (vi x :: st) M Q = WP d 243 142 [l0, l1, l2, l3, l4, l5, some (vi x)] (st) M Q := w1 mC_243 d243_140 rfl rfl
theorem d243_142 : decode cX12_shift 142 = .ok (.iload 6, 2) := by decide +kernel
theorem k243_142 {d : Nat} {x : Int32} {l0 l1 l2 l3 l4 l5 : Option PV} {st : List PV} {M : Mem} {Q : Option PV → Mem → Prop} : WP d 243 142 [l0, l1, l2, l3, l4, l5, some (vi x)] (st) M Q = WP d 243 144 [l0, l1, l2, l3, l4, l5, some (vi x)] (vi x :: st) M Q := w1 mC_243 d243_142 rfl rfl
theorem d243_144 : decode cX12_shift 144 = .ok (.ifCond .lt 38, 3) := by decide +kernel
theorem k243_144 {d : Nat} {l0 l1 l2 l3 l4 l5 l6 : Option PV} {st : List PV} {M : Mem} {Q : Option PV → Mem → Prop} {x : Int32} : WP d 243 144 [l0, l1, l2, l3, l4, l5, l6] (vi x :: st) M Q = (if x < 0 then WP d 243 182 [l0, l1, l2, l3, l4, l5, l6] (st) M Q else WP d 243 147 [l0, l1, l2, l3, l4, l5, l6] (st) M Q) := w_if_lt mC_243 d243_144 (by decide)
theorem d243_147 : decode cX12_shift 147 = .ok (.aload_n 0, 1) := by decide +kernel
theorem k243_147 {d x : Nat} {l1 l2 l3 l4 l5 l6 : Option PV} {st : List PV} {M : Mem} {Q : Option PV → Mem → Prop} : WP d 243 147 [some (vr x), l1, l2, l3, l4, l5, l6] (st) M Q = WP d 243 148 [some (vr x), l1, l2, l3, l4, l5, l6] (vr x :: st) M Q := w1 mC_243 d243_147 rfl rfl
theorem d243_148 : decode cX12_shift 148 = .ok (.getfield 75, 3) := by decide +kernel
theorem k243_148 {d : Nat} {l0 l1 l2 l3 l4 l5 l6 : Option PV} {st : List PV} {M : Mem} {Q : Option PV → Mem → Prop} {r : Nat} (hk : mK M r = 12) : WP d 243 148 [l0, l1, l2, l3, l4, l5, l6] (vr r :: st) M Q = WP d 243 151 [l0, l1, l2, l3, l4, l5, l6] (vr (mR M r 37) :: st) M Q := w_getr mC_243 d243_148 fE_12_75 rfl (by rw [hk]; rfl)
theorem d243_151 : decode cX12_shift 151 = .ok (.bipush 60, 2) := by decide +kernel
theorem k243_151 {d : Nat} {l0 l1 l2 l3 l4 l5 l6 : Option PV} {st : List PV} {M : Mem} {Q : Option PV → Mem → Prop} : WP d 243 151 [l0, l1, l2, l3, l4, l5, l6] (st) M Q = WP d 243 153 [l0, l1, l2, l3, l4, l5, l6] (vi 60 :: st) M Q := w_bipush mC_243 d243_151 (by decide)
theorem d243_153 : decode cX12_shift 153 = .ok (.iload_n 3, 1) := by decide +kernel
theorem k243_153 {d : Nat} {x : Int32} {l0 l1 l2 l4 l5 l6 : Option PV} {st : List PV} {M : Mem} {Q : Option PV → Mem → Prop} : WP d 243 153 [l0, l1, l2, some (vi x), l4, l5, l6] (st) M Q = WP d 243 154 [l0, l1, l2, some (vi x), l4, l5, l6] (vi x :: st) M Q := w1 mC_243 d243_153 rfl rfl
theorem d243_154 : decode cX12_shift 154 = .ok (.imul, 1) := by decide +kernel
theorem k243_154 {d : Nat} {l0 l1 l2 l3 l4 l5 l6 : Option PV} {st : List PV} {M : Mem} {Q : Option PV → Mem → Prop} {x y : Int32} : WP d 243 154 [l0, l1, l2, l3, l4, l5, l6] (vi y :: vi x :: st) M Q = WP d 243 155 [l0, l1, l2, l3, l4, l5, l6] (vi (x * y) :: st) M Q := w1 mC_243 d243_154 rfl rfl
theorem d243_155 : decode cX12_shift 155 = .ok (.iload 4, 2) := by decide +kernel
theorem k243_155 {d : Nat} {x : Int32} {l0 l1 l2 l3 l5 l6 : Option PV} {st : List PV} {M : Mem} {Q : Option PV → Mem → Prop} : WP d 243 155 [l0, l1, l2, l3, some (vi x), l5, l6] (st) M Q = WP d 243 157 [l0, l1, l2, l3, some (vi x), l5, l6] (vi x :: st) M Q := w1 mC_243 d243_155 rfl rfl
theorem d243_157 : decode cX12_shift 157 = .ok (.iadd, 1) := by decide +kernel
theorem k243_157 {d : Nat} {l0 l1 l2 l3 l4 l5 l6 : Option PV} {st : List PV} {M : Mem} {Q : Option PV → Mem → Prop} {x y : Int32} : WP d 243 157 [l0, l1, l2, l3, l4, l5, l6] (vi y :: vi x :: st) M Q = WP d 243 158 [l0, l1, l2, l3, l4, l5, l6] (vi (x + y) :: st) M Q := w1 mC_243 d243_157 rfl rfl
theorem d243_158 : decode cX12_shift 158 = .ok (.iload 6, 2) := by decide +kernel
theorem k243_158 {d : Nat} {x : Int32} {l0 l1 l2 l3 l4 l5 : Option PV} {st : List PV} {M : Mem} {Q : Option PV → Mem → Prop} : WP d 243 158 [l0, l1, l2, l3, l4, l5, some (vi x)] (st) M Q = WP d 243 160 [l0, l1, l2, l3, l4, l5, some (vi x)] (vi x :: st) M Q := w1 mC_243 d243_158 rfl rfl
theorem d243_160 : decode cX12_shift 160 = .ok (.iadd, 1) := by decide +kernel
theorem k243_160 {d : Nat} {l0 l1 l2 l3 l4 l5 l6 : Option PV} {st : List PV} {M : Mem} {Q : Option PV → Mem → Prop} {x y : Int32} : WP d 243 160 [l0, l1, l2, l3, l4, l5, l6] (vi y :: vi x :: st) M Q = WP d 243 161 [l0, l1, l2, l3, l4, l5, l6] (vi (x + y) :: st) M Q := w1 mC_243 d243_160 rfl rfl
theorem d243_161 : decode cX12_shift 161 = .ok (.aload_n 0, 1) := by decide +kernel
theorem k243_161 {d x : Nat} {l1 l2 l3 l4 l5 l6 : Option PV} {st : List PV} {M : Mem} {Q : Option PV → Mem → Prop} : WP d 243 161 [some (vr x), l1, l2, l3, l4, l5, l6] (st) M Q = WP d 243 162 [some (vr x), l1, l2, l3, l4, l5, l6] (vr x :: st) M Q := w1 mC_243 d243_161 rfl rfl
theorem d243_162 : decode cX12_shift 162 = .ok (.getfield 75, 3) := by decide +kernel
theorem k243_162 {d : Nat} {l0 l1 l2 l3 l4 l5 l6 : Option PV} {st : List PV} {M : Mem} {Q : Option PV → Mem → Prop} {r : Nat} (hk : mK M r = 12) : WP d 243 162 [l0, l1, l2, l3, l4, l5, l6] (vr r :: st) M Q = WP d 243 165 [l0, l1, l2, l3, l4, l5, l6] (vr (mR M r 37) :: st) M Q := w_getr mC_243 d243_162 fE_12_75 rfl (by rw [hk]; rfl)
theorem d243_165 : decode cX12_shift 165 = .ok (.bipush 60, 2) := by decide +kernel
theorem k243_165 {d : Nat} {l0 l1 l2 l3 l4 l5 l6 : Option PV} {st : List PV} {M : Mem} {Q : Option PV → Mem → Prop} : WP d 243 165 [l0, l1, l2, l3, l4, l5, l6] (st) M Q = WP d 243 167 [l0, l1, l2, l3, l4, l5, l6] (vi 60 :: st) M Q := w_bipush mC_243 d243_165 (by decide)
theorem d243_167 : decode cX12_shift 167 = .ok (.iload_n 1, 1) := by decide +kernel
theorem k243_167 {d : Nat} {x : Int32} {l0 l2 l3 l4 l5 l6 : Option PV} {st : List PV} {M : Mem} {Q : Option PV → Mem → Prop} : WP d 243 167 [l0, some (vi x), l2, l3, l4, l5, l6] (st) M Q = WP d 243 168 [l0, some (vi x), l2, l3, l4, l5, l6] (vi x :: st) M Q := w1 mC_243 d243_167 rfl rfl
theorem d243_168 : decode cX12_shift 168 = .ok (.imul, 1) := by decide +kernel
theorem k243_168 {d : Nat} {l0 l1 l2 l3 l4 l5 l6 : Option PV} {st : List PV} {M : Mem} {Q : Option PV → Mem → Prop} {x y : Int32} : WP d 243 168 [l0, l1, l2, l3, l4, l5, l6] (vi y :: vi x :: st) M Q = WP d 243 169 [l0, l1, l2, l3, l4, l5, l6] (vi (x * y) :: st) M Q := w1 mC_243 d243_168 rfl rfl
theorem d243_169 : decode cX12_shift 169 = .ok (.iload_n 2, 1) := by decide +kernel
theorem k243_169 {d : Nat} {x : Int32} {l0 l1 l3 l4 l5 l6 : Option PV} {st : List PV} {M : Mem} {Q : Option PV → Mem → Prop} : WP d 243 169 [l0, l1, some (vi x), l3, l4, l5, l6] (st) M Q = WP d 243 170 [l0, l1, some (vi x), l3, l4, l5, l6] (vi x :: st) M Q := w1 mC_243 d243_169 rfl rfl
theorem d243_170 : decode cX12_shift 170 = .ok (.iadd, 1) := by decide +kernel
theorem k243_170 {d : Nat} {l0 l1 l2 l3 l4 l5 l6 : Option PV} {st : List PV} {M : Mem} {Q : Option PV → Mem → Prop} {x y : Int32} : WP d 243 170 [l0, l1, l2, l3, l4, l5, l6] (vi y :: vi x :: st) M Q = WP d 243 171 [l0, l1, l2, l3, l4, l5, l6] (vi (x + y) :: st) M Q := w1 mC_243 d243_170 rfl rfl
theorem d243_171 : decode cX12_shift 171 = .ok (.iload 6, 2) := by decide +kernel
theorem k243_171 {d : Nat} {x : Int32} {l0 l1 l2 l3 l4 l5 : Option PV} {st : List PV} {M : Mem} {Q : Option PV → Mem → Prop} : WP d 243 171 [l0, l1, l2, l3, l4, l5, some (vi x)] (st) M Q = WP d 243 173 [l0, l1, l2, l3, l4, l5, some (vi x)] (vi x :: st) M Q := w1 mC_243 d243_171 rfl rfl
theorem d243_173 : decode cX12_shift 173 = .ok (.iadd, 1) := by decide +kernel
theorem k243_173 {d : Nat} {l0 l1 l2 l3 l4 l5 l6 : Option PV} {st : List PV} {M : Mem} {Q : Option PV → Mem → Prop} {x y : Int32} : WP d 243 173 [l0, l1, l2, l3, l4, l5, l6] (vi y :: vi x :: st) M Q = WP d 243 174 [l0, l1, l2, l3, l4, l5, l6] (vi (x + y) :: st) M Q := w1 mC_243 d243_173 rfl rfl
theorem d243_174 : decode cX12_shift 174 = .ok (.laload, 1) := by decide +kernel
theorem k243_174 {d : Nat} {l0 l1 l2 l3 l4 l5 l6 : Option PV} {st : List PV} {M : Mem} {Q : Option PV → Mem → Prop} {r : Nat} {j : Int32} (hk : mK M r = 14) (hj : inb j (mN M r)) (h1 : r ≠ 1) : WP d 243 174 [l0, l1, l2, l3, l4, l5, l6] (vi j :: vr r :: st) M Q = WP d 243 175 [l0, l1, l2, l3, l4, l5, l6] (vl (mJ M r (ix j)) :: st) M Q := w_lald mC_243 d243_174 hk hj h1
theorem d243_175 : decode cX12_shift 175 = .ok (.lastore, 1) := by decide +kernel
theorem k243_175 {d : Nat} {l0 l1 l2 l3 l4 l5 l6 : Option PV} {st : List PV} {M : Mem} {Q : Option PV → Mem → Prop} {r : Nat} {j : Int32} {x : Int64} (hk : mK M r = 14) (hj : inb j (mN M r)) (h1 : r ≠ 1) : WP d 243 175 [l0, l1, l2, l3, l4, l5, l6] (vl x :: vi j :: vr r :: st) M Q = WP d 243 176 [l0, l1, l2, l3, l4, l5, l6] (st) (sJ M r (ix j) x) Q := w_last mC_243 d243_175 hk hj h1
theorem d243_176 : decode cX12_shift 176 = .ok (.iinc 6 (-1), 3) := by decide +kernel
theorem k243_176 {d : Nat} {x : Int32} {l0 l1 l2 l3 l4 l5 : Option PV} {st : List PV} {M : Mem} {Q : Option PV → Mem → Prop} : WP d 243 176 [l0, l1, l2, l3, l4, l5, some (vi x)] (st) M Q = WP d 243 179 [l0, l1, l2, l3, l4, l5, some (vi (x + (-1)))] (st) M Q := w_iinc mC_243 d243_176 rfl (by decide) rfl
theorem d243_179 : decode cX12_shift 179 = .ok (.goto (-37), 3) := by decide +kernel
theorem k243_179 {d : Nat} {l0 l1 l2 l3 l4 l5 l6 : Option PV} {st : List PV} {M : Mem} {Q : Option PV → Mem → Prop} : WP d 243 179 [l0, l1, l2, l3, l4, l5, l6] (st) M Q = WP d 243 142 [l0, l1, l2, l3, l4, l5, l6] (st) M Q := w_goto mC_243 d243_179 (by decide)
theorem d243_182 : decode cX12_shift 182 = .ok (.goto 48, 3) := by decide +kernel
theorem k243_182 {d : Nat} {l0 l1 l2 l3 l4 l5 l6 : Option PV} {st : List PV} {M : Mem} {Q : Option PV → Mem → Prop} : WP d 243 182 [l0, l1, l2, l3, l4, l5, l6] (st) M Q = WP d 243 230 [l0, l1, l2, l3, l4, l5, l6] (st) M Q := w_goto mC_243 d243_182 (by decide)
theorem d243_185 : decode cX12_shift 185 = .ok (.iconst 0, 1) := by decide +kernel
theorem k243_185 {d : Nat} {l0 l1 l2 l3 l4 l5 l6 : Option PV} {st : List PV} {M : Mem} {Q : Option PV → Mem → Prop} : WP d 243 185 [l0, l1, l2, l3, l4, l5, l6] (st) M Q = WP d 243 186 [l0, l1, l2, l3, l4, l5, l6] (vi 0 :: st) M Q := w_iconst mC_243 d243_185 (by decide)
theorem d243_186 : decode cX12_shift 186 = .ok (.istore 6, 2) := by decide +kernel
theorem k243_186 {d : Nat} {l0 l1 l2 l3 l4 l5 l6 : Option PV} {st : List PV} {M : Mem} {Q : Option PV → Mem → Prop} {x : Int32} : WP d 243 186 [l0, l1, l2, l3, l4, l5, l6] (vi x :: st) M Q = WP d 243 188 [l0, l1, l2, l3, l4, l5, some (vi x)] (st) M Q := w1 mC_243 d243_186 rfl rfl
theorem d243_188 : decode cX12_shift 188 = .ok (.iload 6, 2) := by decide +kernel
theorem k243_188 {d : Nat} {x : Int32} {l0 l1 l2 l3 l4 l5 : Option PV} {st : List PV} {M : Mem} {Q : Option PV → Mem → Prop} : WP d 243 188 [l0, l1, l2, l3, l4, l5, some (vi x)] (st) M Q = WP d 243 190 [l0, l1, l2, l3, l4, l5, some (vi x)] (vi x :: st) M Q := w1 mC_243 d243_188 rfl rfl
theorem d243_190 : decode cX12_shift 190 = .ok (.iload 5, 2) := by decide +kernel
theorem k243_190 {d : Nat} {x : Int32} {l0 l1 l2 l3 l4 l6 : Option PV} {st : List PV} {M : Mem} {Q : Option PV → Mem → Prop} : WP d 243 190 [l0, l1, l2, l3, l4, some (vi x), l6] (st) M Q = WP d 243 192 [l0, l1, l2, l3, l4, some (vi x), l6] (vi x :: st) M Q := w1 mC_243 d243_190 rfl rfl
theorem d243_192 : decode cX12_shift 192 = .ok (.if_icmp .ge 38, 3) := by decide +kernel
theorem k243_192 {d : Nat} {l0 l1 l2 l3 l4 l5 l6 : Option PV} {st : List PV} {M : Mem} {Q : Option PV → Mem → Prop} {x y : Int32} : WP d 243 192 [l0, l1, l2, l3, l4, l5, l6] (vi y :: vi x :: st) M Q = (if y ≤ x then WP d 243 230 [l0, l1, l2, l3, l4, l5, l6] (st) M Q else WP d 243 195 [l0, l1, l2, l3, l4, l5, l6] (st) M Q) := w_ic_ge mC_243 d243_192 (by decide)
theorem d243_195 : decode cX12_shift 195 = .ok (.aload_n 0, 1) := by decide +kernel
theorem k243_195 {d x : Nat} {l1 l2 l3 l4 l5 l6 : Option PV} {st : List PV} {M : Mem} {Q : Option PV → Mem → Prop} : WP d 243 195 [some (vr x), l1, l2, l3, l4, l5, l6] (st) M Q = WP d 243 196 [some (vr x), l1, l2, l3, l4, l5, l6] (vr x :: st) M Q := w1 mC_243 d243_195 rfl rfl
theorem d243_196 : decode cX12_shift 196 = .ok (.getfield 75, 3) := by decide +kernel
theorem k243_196 {d : Nat} {l0 l1 l2 l3 l4 l5 l6 : Option PV} {st : List PV} {M : Mem} {Q : Option PV → Mem → Prop} {r : Nat} (hk : mK M r = 12) : WP d 243 196 [l0, l1, l2, l3, l4, l5, l6] (vr r :: st) M Q = WP d 243 199 [l0, l1, l2, l3, l4, l5, l6] (vr (mR M r 37) :: st) M Q := w_getr mC_243 d243_196 fE_12_75 rfl (by rw [hk]; rfl)
theorem d243_199 : decode cX12_shift 199 = .ok (.bipush 60, 2) := by decide +kernel
theorem k243_199 {d : Nat} {l0 l1 l2 l3 l4 l5 l6 : Option PV} {st : List PV} {M : Mem} {Q : Option PV → Mem → Prop} : WP d 243 199 [l0, l1, l2, l3, l4, l5, l6] (st) M Q = WP d 243 201 [l0, l1, l2, l3, l4, l5, l6] (vi 60 :: st) M Q := w_bipush mC_243 d243_199 (by decide)
theorem d243_201 : decode cX12_shift 201 = .ok (.iload_n 3, 1) := by decide +kernel
theorem k243_201 {d : Nat} {x : Int32} {l0 l1 l2 l4 l5 l6 : Option PV} {st : List PV} {M : Mem} {Q : Option PV → Mem → Prop} : WP d 243 201 [l0, l1, l2, some (vi x), l4, l5, l6] (st) M Q = WP d 243 202 [l0, l1, l2, some (vi x), l4, l5, l6] (vi x :: st) M Q := w1 mC_243 d243_201 rfl rfl
theorem d243_202 : decode cX12_shift 202 = .ok (.imul, 1) := by decide +kernel
theorem k243_202 {d : Nat} {l0 l1 l2 l3 l4 l5 l6 : Option PV} {st : List PV} {M : Mem} {Q : Option PV → Mem → Prop} {x y : Int32} : WP d 243 202 [l0, l1, l2, l3, l4, l5, l6] (vi y :: vi x :: st) M Q = WP d 243 203 [l0, l1, l2, l3, l4, l5, l6] (vi (x * y) :: st) M Q := w1 mC_243 d243_202 rfl rfl
theorem d243_203 : decode cX12_shift 203 = .ok (.iload 4, 2) := by decide +kernel
theorem k243_203 {d : Nat} {x : Int32} {l0 l1 l2 l3 l5 l6 : Option PV} {st : List PV} {M : Mem} {Q : Option PV → Mem → Prop} : WP d 243 203 [l0, l1, l2, l3, some (vi x), l5, l6] (st) M Q = WP d 243 205 [l0, l1, l2, l3, some (vi x), l5, l6] (vi x :: st) M Q := w1 mC_243 d243_203 rfl rfl
theorem d243_205 : decode cX12_shift 205 = .ok (.iadd, 1) := by decide +kernel
theorem k243_205 {d : Nat} {l0 l1 l2 l3 l4 l5 l6 : Option PV} {st : List PV} {M : Mem} {Q : Option PV → Mem → Prop} {x y : Int32} : WP d 243 205 [l0, l1, l2, l3, l4, l5, l6] (vi y :: vi x :: st) M Q = WP d 243 206 [l0, l1, l2, l3, l4, l5, l6] (vi (x + y) :: st) M Q := w1 mC_243 d243_205 rfl rfl
theorem d243_206 : decode cX12_shift 206 = .ok (.iload 6, 2) := by decide +kernel
theorem k243_206 {d : Nat} {x : Int32} {l0 l1 l2 l3 l4 l5 : Option PV} {st : List PV} {M : Mem} {Q : Option PV → Mem → Prop} : WP d 243 206 [l0, l1, l2, l3, l4, l5, some (vi x)] (st) M Q = WP d 243 208 [l0, l1, l2, l3, l4, l5, some (vi x)] (vi x :: st) M Q := w1 mC_243 d243_206 rfl rfl
theorem d243_208 : decode cX12_shift 208 = .ok (.iadd, 1) := by decide +kernel
theorem k243_208 {d : Nat} {l0 l1 l2 l3 l4 l5 l6 : Option PV} {st : List PV} {M : Mem} {Q : Option PV → Mem → Prop} {x y : Int32} : WP d 243 208 [l0, l1, l2, l3, l4, l5, l6] (vi y :: vi x :: st) M Q = WP d 243 209 [l0, l1, l2, l3, l4, l5, l6] (vi (x + y) :: st) M Q := w1 mC_243 d243_208 rfl rfl
theorem d243_209 : decode cX12_shift 209 = .ok (.aload_n 0, 1) := by decide +kernel
theorem k243_209 {d x : Nat} {l1 l2 l3 l4 l5 l6 : Option PV} {st : List PV} {M : Mem} {Q : Option PV → Mem → Prop} : WP d 243 209 [some (vr x), l1, l2, l3, l4, l5, l6] (st) M Q = WP d 243 210 [some (vr x), l1, l2, l3, l4, l5, l6] (vr x :: st) M Q := w1 mC_243 d243_209 rfl rfl
theorem d243_210 : decode cX12_shift 210 = .ok (.getfield 75, 3) := by decide +kernel
theorem k243_210 {d : Nat} {l0 l1 l2 l3 l4 l5 l6 : Option PV} {st : List PV} {M : Mem} {Q : Option PV → Mem → Prop} {r : Nat} (hk : mK M r = 12) : WP d 243 210 [l0, l1, l2, l3, l4, l5, l6] (vr r :: st) M Q = WP d 243 213 [l0, l1, l2, l3, l4, l5, l6] (vr (mR M r 37) :: st) M Q := w_getr mC_243 d243_210 fE_12_75 rfl (by rw [hk]; rfl)
theorem d243_213 : decode cX12_shift 213 = .ok (.bipush 60, 2) := by decide +kernel
theorem k243_213 {d : Nat} {l0 l1 l2 l3 l4 l5 l6 : Option PV} {st : List PV} {M : Mem} {Q : Option PV → Mem → Prop} : WP d 243 213 [l0, l1, l2, l3, l4, l5, l6] (st) M Q = WP d 243 215 [l0, l1, l2, l3, l4, l5, l6] (vi 60 :: st) M Q := w_bipush mC_243 d243_213 (by decide)
theorem d243_215 : decode cX12_shift 215 = .ok (.iload_n 1, 1) := by decide +kernel
theorem k243_215 {d : Nat} {x : Int32} {l0 l2 l3 l4 l5 l6 : Option PV} {st : List PV} {M : Mem} {Q : Option PV → Mem → Prop} : WP d 243 215 [l0, some (vi x), l2, l3, l4, l5, l6] (st) M Q = WP d 243 216 [l0, some (vi x), l2, l3, l4, l5, l6] (vi x :: st) M Q := w1 mC_243 d243_215 rfl rfl
theorem d243_216 : decode cX12_shift 216 = .ok (.imul, 1) := by decide +kernel
theorem k243_216 {d : Nat} {l0 l1 l2 l3 l4 l5 l6 : Option PV} {st : List PV} {M : Mem} {Q : Option PV → Mem → Prop} {x y : Int32} : WP d 243 216 [l0, l1, l2, l3, l4, l5, l6] (vi y :: vi x :: st) M Q = WP d 243 217 [l0, l1, l2, l3, l4, l5, l6] (vi (x * y) :: st) M Q := w1 mC_243 d243_216 rfl rfl
theorem d243_217 : decode cX12_shift 217 = .ok (.iload_n 2, 1) := by decide +kernel
theorem k243_217 {d : Nat} {x : Int32} {l0 l1 l3 l4 l5 l6 : Option PV} {st : List PV} {M : Mem} {Q : Option PV → Mem → Prop} : WP d 243 217 [l0, l1, some (vi x), l3, l4, l5, l6] (st) M Q = WP d 243 218 [l0, l1, some (vi x), l3, l4, l5, l6] (vi x :: st) M Q := w1 mC_243 d243_217 rfl rfl
theorem d243_218 : decode cX12_shift 218 = .ok (.iadd, 1) := by decide +kernel
theorem k243_218 {d : Nat} {l0 l1 l2 l3 l4 l5 l6 : Option PV} {st : List PV} {M : Mem} {Q : Option PV → Mem → Prop} {x y : Int32} : WP d 243 218 [l0, l1, l2, l3, l4, l5, l6] (vi y :: vi x :: st) M Q = WP d 243 219 [l0, l1, l2, l3, l4, l5, l6] (vi (x + y) :: st) M Q := w1 mC_243 d243_218 rfl rfl
theorem d243_219 : decode cX12_shift 219 = .ok (.iload 6, 2) := by decide +kernel
theorem k243_219 {d : Nat} {x : Int32} {l0 l1 l2 l3 l4 l5 : Option PV} {st : List PV} {M : Mem} {Q : Option PV → Mem → Prop} : WP d 243 219 [l0, l1, l2, l3, l4, l5, some (vi x)] (st) M Q = WP d 243 221 [l0, l1, l2, l3, l4, l5, some (vi x)] (vi x :: st) M Q := w1 mC_243 d243_219 rfl rfl
theorem d243_221 : decode cX12_shift 221 = .ok (.iadd, 1) := by decide +kernel
theorem k243_221 {d : Nat} {l0 l1 l2 l3 l4 l5 l6 : Option PV} {st : List PV} {M : Mem} {Q : Option PV → Mem → Prop} {x y : Int32} : WP d 243 221 [l0, l1, l2, l3, l4, l5, l6] (vi y :: vi x :: st) M Q = WP d 243 222 [l0, l1, l2, l3, l4, l5, l6] (vi (x + y) :: st) M Q := w1 mC_243 d243_221 rfl rfl
theorem d243_222 : decode cX12_shift 222 = .ok (.laload, 1) := by decide +kernel
theorem k243_222 {d : Nat} {l0 l1 l2 l3 l4 l5 l6 : Option PV} {st : List PV} {M : Mem} {Q : Option PV → Mem → Prop} {r : Nat} {j : Int32} (hk : mK M r = 14) (hj : inb j (mN M r)) (h1 : r ≠ 1) : WP d 243 222 [l0, l1, l2, l3, l4, l5, l6] (vi j :: vr r :: st) M Q = WP d 243 223 [l0, l1, l2, l3, l4, l5, l6] (vl (mJ M r (ix j)) :: st) M Q := w_lald mC_243 d243_222 hk hj h1
theorem d243_223 : decode cX12_shift 223 = .ok (.lastore, 1) := by decide +kernel
theorem k243_223 {d : Nat} {l0 l1 l2 l3 l4 l5 l6 : Option PV} {st : List PV} {M : Mem} {Q : Option PV → Mem → Prop} {r : Nat} {j : Int32} {x : Int64} (hk : mK M r = 14) (hj : inb j (mN M r)) (h1 : r ≠ 1) : WP d 243 223 [l0, l1, l2, l3, l4, l5, l6] (vl x :: vi j :: vr r :: st) M Q = WP d 243 224 [l0, l1, l2, l3, l4, l5, l6] (st) (sJ M r (ix j) x) Q := w_last mC_243 d243_223 hk hj h1
theorem d243_224 : decode cX12_shift 224 = .ok (.iinc 6 1, 3) := by decide +kernel
theorem k243_224 {d : Nat} {x : Int32} {l0 l1 l2 l3 l4 l5 : Option PV} {st : List PV} {M : Mem} {Q : Option PV → Mem → Prop} : WP d 243 224 [l0, l1, l2, l3, l4, l5, some (vi x)] (st) M Q = WP d 243 227 [l0, l1, l2, l3, l4, l5, some (vi (x + 1))] (st) M Q := w_iinc mC_243 d243_224 rfl (by decide) rfl
theorem d243_227 : decode cX12_shift 227 = .ok (.goto (-39), 3) := by decide +kernel
theorem k243_227 {d : Nat} {l0 l1 l2 l3 l4 l5 l6 : Option PV} {st : List PV} {M : Mem} {Q : Option PV → Mem → Prop} : WP d 243 227 [l0, l1, l2, l3, l4, l5, l6] (st) M Q = WP d 243 188 [l0, l1, l2, l3, l4, l5, l6] (st) M Q := w_goto mC_243 d243_227 (by decide)
theorem d243_230 : decode cX12_shift 230 = .ok (.iload 5, 2) := by decide +kernel
theorem k243_230 {d : Nat} {x : Int32} {l0 l1 l2 l3 l4 l6 : Option PV} {st : List PV} {M : Mem} {Q : Option PV → Mem → Prop} : WP d 243 230 [l0, l1, l2, l3, l4, some (vi x), l6] (st) M Q = WP d 243 232 [l0, l1, l2, l3, l4, some (vi x), l6] (vi x :: st) M Q := w1 mC_243 d243_230 rfl rfl
theorem d243_232 : decode cX12_shift 232 = .ok (.ireturn, 1) := by decide +kernel
theorem k243_232 {d : Nat} {l0 l1 l2 l3 l4 l5 l6 : Option PV} {M : Mem} {Q : Option PV → Mem → Prop} {x : Int32} : WP d 243 232 [l0, l1, l2, l3, l4, l5, l6] ([vi x]) M Q = Q (some (vi x)) M := w_iret mC_243 d243_232 rfl
theorem d244_0 : decode cX12_taken 0 = .ok (.iload_n 1, 1) := by decide +kernel
theorem k244_0 {d : Nat} {x : Int32} {l0 l2 l3 l4 : Option PV} {st : List PV} {M : Mem} {Q : Option PV → Mem → Prop} : WP d 244 0 [l0, some (vi x), l2, l3, l4] (st) M Q = WP d 244 1 [l0, some (vi x), l2, l3, l4] (vi x :: st) M Q := w1 mC_244 d244_0 rfl rfl
theorem d244_1 : decode cX12_taken 1 = .ok (.invokestatic 122, 3) := by decide +kernel
theorem k244_1 {d : Nat} {l0 l1 l2 l3 l4 : Option PV} {st : List PV} {M : Mem} {Q : Option PV → Mem → Prop} {a0 : Int32} (hl : szL st ≤ 8) : WP (d + 1) 244 1 [l0, l1, l2, l3, l4] (vi a0 :: st) M Q = WP d 149 0 [some (vi a0)] [] M (fun v M' => WP (d + 1) 244 4 [l0, l1, l2, l3, l4] (psh v st) M' Q) := w_callS mC_244 d244_1 rfl rfl (Nat.le_of_ble_eq_true rfl) (by decide) rfl hl
theorem d244_4 : decode cX12_taken 4 = .ok (.ifCond .eq 13, 3) := by decide +kernel
theorem k244_4 {d : Nat} {l0 l1 l2 l3 l4 : Option PV} {st : List PV} {M : Mem} {Q : Option PV → Mem → Prop} {x : Int32} : WP d 244 4 [l0, l1, l2, l3, l4] (vi x :: st) M Q = (if x = 0 then WP d 244 17 [l0, l1, l2, l3, l4] (st) M Q else WP d 244 7 [l0, l1, l2, l3, l4] (st) M Q) := w_if_eq mC_244 d244_4 (by decide)
theorem d244_7 : decode cX12_taken 7 = .ok (.iload_n 2, 1) := by decide +kernel
theorem k244_7 {d : Nat} {x : Int32} {l0 l1 l3 l4 : Option PV} {st : List PV} {M : Mem} {Q : Option PV → Mem → Prop} : WP d 244 7 [l0, l1, some (vi x), l3, l4] (st) M Q = WP d 244 8 [l0, l1, some (vi x), l3, l4] (vi x :: st) M Q := w1 mC_244 d244_7 rfl rfl
theorem d244_8 : decode cX12_taken 8 = .ok (.iconst 0, 1) := by decide +kernel
theorem k244_8 {d : Nat} {l0 l1 l2 l3 l4 : Option PV} {st : List PV} {M : Mem} {Q : Option PV → Mem → Prop} : WP d 244 8 [l0, l1, l2, l3, l4] (st) M Q = WP d 244 9 [l0, l1, l2, l3, l4] (vi 0 :: st) M Q := w_iconst mC_244 d244_8 (by decide)
theorem d244_9 : decode cX12_taken 9 = .ok (.bipush 7, 2) := by decide +kernel
theorem k244_9 {d : Nat} {l0 l1 l2 l3 l4 : Option PV} {st : List PV} {M : Mem} {Q : Option PV → Mem → Prop} : WP d 244 9 [l0, l1, l2, l3, l4] (st) M Q = WP d 244 11 [l0, l1, l2, l3, l4] (vi 7 :: st) M Q := w_bipush mC_244 d244_9 (by decide)
theorem d244_11 : decode cX12_taken 11 = .ok (.invokestatic 104, 3) := by decide +kernel
theorem k244_11 {d : Nat} {l0 l1 l2 l3 l4 : Option PV} {st : List PV} {M : Mem} {Q : Option PV → Mem → Prop} {a0 a1 a2 : Int32} (hl : szL st ≤ 8) : WP (d + 1) 244 11 [l0, l1, l2, l3, l4] (vi a2 :: vi a1 :: vi a0 :: st) M Q = WP d 145 0 [some (vi a0), some (vi a1), some (vi a2)] [] M (fun v M' => WP (d + 1) 244 14 [l0, l1, l2, l3, l4] (psh v st) M' Q) := w_callS mC_244 d244_11 rfl rfl (Nat.le_of_ble_eq_true rfl) (by decide) rfl hl
theorem d244_14 : decode cX12_taken 14 = .ok (.ifCond .ne 5, 3) := by decide +kernel
theorem k244_14 {d : Nat} {l0 l1 l2 l3 l4 : Option PV} {st : List PV} {M : Mem} {Q : Option PV → Mem → Prop} {x : Int32} : WP d 244 14 [l0, l1, l2, l3, l4] (vi x :: st) M Q = (if x = 0 then WP d 244 17 [l0, l1, l2, l3, l4] (st) M Q else WP d 244 19 [l0, l1, l2, l3, l4] (st) M Q) := w_if_ne mC_244 d244_14 (by decide)
theorem d244_17 : decode cX12_taken 17 = .ok (.iconst (-1), 1) := by decide +kernel
theorem k244_17 {d : Nat} {l0 l1 l2 l3 l4 : Option PV} {st : List PV} {M : Mem} {Q : Option PV → Mem → Prop} : WP d 244 17 [l0, l1, l2, l3, l4] (st) M Q = WP d 244 18 [l0, l1, l2, l3, l4] (vi (-1) :: st) M Q := w_iconst mC_244 d244_17 (by decide)
theorem d244_18 : decode cX12_taken 18 = .ok (.ireturn, 1) := by decide +kernel
theorem k244_18 {d : Nat} {l0 l1 l2 l3 l4 : Option PV} {M : Mem} {Q : Option PV → Mem → Prop} {x : Int32} : WP d 244 18 [l0, l1, l2, l3, l4] ([vi x]) M Q = Q (some (vi x)) M := w_iret mC_244 d244_18 rfl
theorem d244_19 : decode cX12_taken 19 = .ok (.aload_n 0, 1) := by decide +kernel
theorem k244_19 {d x : Nat} {l1 l2 l3 l4 : Option PV} {st : List PV} {M : Mem} {Q : Option PV → Mem → Prop} : WP d 244 19 [some (vr x), l1, l2, l3, l4] (st) M Q = WP d 244 20 [some (vr x), l1, l2, l3, l4] (vr x :: st) M Q := w1 mC_244 d244_19 rfl rfl
theorem d244_20 : decode cX12_taken 20 = .ok (.getfield 69, 3) := by decide +kernel
theorem k244_20 {d : Nat} {l0 l1 l2 l3 l4 : Option PV} {st : List PV} {M : Mem} {Q : Option PV → Mem → Prop} {r : Nat} (hk : mK M r = 12) : WP d 244 20 [l0, l1, l2, l3, l4] (vr r :: st) M Q = WP d 244 23 [l0, l1, l2, l3, l4] (vr (mR M r 35) :: st) M Q := w_getr mC_244 d244_20 fE_12_69 rfl (by rw [hk]; rfl)
theorem d244_23 : decode cX12_taken 23 = .ok (.iload_n 1, 1) := by decide +kernel
theorem k244_23 {d : Nat} {x : Int32} {l0 l2 l3 l4 : Option PV} {st : List PV} {M : Mem} {Q : Option PV → Mem → Prop} : WP d 244 23 [l0, some (vi x), l2, l3, l4] (st) M Q = WP d 244 24 [l0, some (vi x), l2, l3, l4] (vi x :: st) M Q := w1 mC_244 d244_23 rfl rfl
theorem d244_24 : decode cX12_taken 24 = .ok (.iaload, 1) := by decide +kernel
theorem k244_24 {d : Nat} {l0 l1 l2 l3 l4 : Option PV} {st : List PV} {M : Mem} {Q : Option PV → Mem → Prop} {r : Nat} {j : Int32} (hk : mK M r = 13) (hj : inb j (mN M r)) (h1 : r ≠ 1) : WP d 244 24 [l0, l1, l2, l3, l4] (vi j :: vr r :: st) M Q = WP d 244 25 [l0, l1, l2, l3, l4] (vi (mI M r (ix j)) :: st) M Q := w_iald mC_244 d244_24 (by decide) hk hj h1
theorem d244_25 : decode cX12_taken 25 = .ok (.iconst (-1), 1) := by decide +kernel
theorem k244_25 {d : Nat} {l0 l1 l2 l3 l4 : Option PV} {st : List PV} {M : Mem} {Q : Option PV → Mem → Prop} : WP d 244 25 [l0, l1, l2, l3, l4] (st) M Q = WP d 244 26 [l0, l1, l2, l3, l4] (vi (-1) :: st) M Q := w_iconst mC_244 d244_25 (by decide)
theorem d244_26 : decode cX12_taken 26 = .ok (.if_icmp .ne 6, 3) := by decide +kernel
theorem k244_26 {d : Nat} {l0 l1 l2 l3 l4 : Option PV} {st : List PV} {M : Mem} {Q : Option PV → Mem → Prop} {x y : Int32} : WP d 244 26 [l0, l1, l2, l3, l4] (vi y :: vi x :: st) M Q = (if x = y then WP d 244 29 [l0, l1, l2, l3, l4] (st) M Q else WP d 244 32 [l0, l1, l2, l3, l4] (st) M Q) := w_ic_ne mC_244 d244_26 (by decide)
theorem d244_29 : decode cX12_taken 29 = .ok (.bipush (-11), 2) := by decide +kernel
theorem k244_29 {d : Nat} {l0 l1 l2 l3 l4 : Option PV} {st : List PV} {M : Mem} {Q : Option PV → Mem → Prop} : WP d 244 29 [l0, l1, l2, l3, l4] (st) M Q = WP d 244 31 [l0, l1, l2, l3, l4] (vi (-11) :: st) M Q := w_bipush mC_244 d244_29 (by decide)
theorem d244_31 : decode cX12_taken 31 = .ok (.ireturn, 1) := by decide +kernel
theorem k244_31 {d : Nat} {l0 l1 l2 l3 l4 : Option PV} {M : Mem} {Q : Option PV → Mem → Prop} {x : Int32} : WP d 244 31 [l0, l1, l2, l3, l4] ([vi x]) M Q = Q (some (vi x)) M := w_iret mC_244 d244_31 rfl
theorem d244_32 : decode cX12_taken 32 = .ok (.aload_n 0, 1) := by decide +kernel
theorem k244_32 {d x : Nat} {l1 l2 l3 l4 : Option PV} {st : List PV} {M : Mem} {Q : Option PV → Mem → Prop} : WP d 244 32 [some (vr x), l1, l2, l3, l4] (st) M Q = WP d 244 33 [some (vr x), l1, l2, l3, l4] (vr x :: st) M Q := w1 mC_244 d244_32 rfl rfl
theorem d244_33 : decode cX12_taken 33 = .ok (.iload_n 1, 1) := by decide +kernel
theorem k244_33 {d : Nat} {x : Int32} {l0 l2 l3 l4 : Option PV} {st : List PV} {M : Mem} {Q : Option PV → Mem → Prop} : WP d 244 33 [l0, some (vi x), l2, l3, l4] (st) M Q = WP d 244 34 [l0, some (vi x), l2, l3, l4] (vi x :: st) M Q := w1 mC_244 d244_33 rfl rfl
theorem d244_34 : decode cX12_taken 34 = .ok (.invokevirtual 365, 3) := by decide +kernel
theorem k244_34 {d : Nat} {l0 l1 l2 l3 l4 : Option PV} {st : List PV} {M : Mem} {Q : Option PV → Mem → Prop} {a0 : Int32} {r : Nat} (hl : szL st ≤ 8) (hk : mK M r = 12) : WP (d + 1) 244 34 [l0, l1, l2, l3, l4] (vi a0 :: vr r :: st) M Q = WP d 239 0 [some (vr r), some (vi a0)] [] M (fun v M' => WP (d + 1) 244 37 [l0, l1, l2, l3, l4] (psh v st) M' Q) := w_callV mC_244 d244_34 (ci := 12) rfl rfl rfl (Nat.le_of_ble_eq_true rfl) (by decide) rfl hl hk
theorem d244_37 : decode cX12_taken 37 = .ok (.ifCond .eq 6, 3) := by decide +kernel
theorem k244_37 {d : Nat} {l0 l1 l2 l3 l4 : Option PV} {st : List PV} {M : Mem} {Q : Option PV → Mem → Prop} {x : Int32} : WP d 244 37 [l0, l1, l2, l3, l4] (vi x :: st) M Q = (if x = 0 then WP d 244 43 [l0, l1, l2, l3, l4] (st) M Q else WP d 244 40 [l0, l1, l2, l3, l4] (st) M Q) := w_if_eq mC_244 d244_37 (by decide)
theorem d244_40 : decode cX12_taken 40 = .ok (.bipush (-12), 2) := by decide +kernel
theorem k244_40 {d : Nat} {l0 l1 l2 l3 l4 : Option PV} {st : List PV} {M : Mem} {Q : Option PV → Mem → Prop} : WP d 244 40 [l0, l1, l2, l3, l4] (st) M Q = WP d 244 42 [l0, l1, l2, l3, l4] (vi (-12) :: st) M Q := w_bipush mC_244 d244_40 (by decide)
theorem d244_42 : decode cX12_taken 42 = .ok (.ireturn, 1) := by decide +kernel
theorem k244_42 {d : Nat} {l0 l1 l2 l3 l4 : Option PV} {M : Mem} {Q : Option PV → Mem → Prop} {x : Int32} : WP d 244 42 [l0, l1, l2, l3, l4] ([vi x]) M Q = Q (some (vi x)) M := w_iret mC_244 d244_42 rfl
theorem d244_43 : decode cX12_taken 43 = .ok (.aload_n 0, 1) := by decide +kernel
theorem k244_43 {d x : Nat} {l1 l2 l3 l4 : Option PV} {st : List PV} {M : Mem} {Q : Option PV → Mem → Prop} : WP d 244 43 [some (vr x), l1, l2, l3, l4] (st) M Q = WP d 244 44 [some (vr x), l1, l2, l3, l4] (vr x :: st) M Q := w1 mC_244 d244_43 rfl rfl
theorem d244_44 : decode cX12_taken 44 = .ok (.getfield 63, 3) := by decide +kernel
theorem k244_44 {d : Nat} {l0 l1 l2 l3 l4 : Option PV} {st : List PV} {M : Mem} {Q : Option PV → Mem → Prop} {r : Nat} (hk : mK M r = 12) : WP d 244 44 [l0, l1, l2, l3, l4] (vr r :: st) M Q = WP d 244 47 [l0, l1, l2, l3, l4] (vr (mR M r 32) :: st) M Q := w_getr mC_244 d244_44 fE_12_63 rfl (by rw [hk]; rfl)
theorem d244_47 : decode cX12_taken 47 = .ok (.aload_n 0, 1) := by decide +kernel
theorem k244_47 {d x : Nat} {l1 l2 l3 l4 : Option PV} {st : List PV} {M : Mem} {Q : Option PV → Mem → Prop} : WP d 244 47 [some (vr x), l1, l2, l3, l4] (st) M Q = WP d 244 48 [some (vr x), l1, l2, l3, l4] (vr x :: st) M Q := w1 mC_244 d244_47 rfl rfl
theorem d244_48 : decode cX12_taken 48 = .ok (.getfield 69, 3) := by decide +kernel
theorem k244_48 {d : Nat} {l0 l1 l2 l3 l4 : Option PV} {st : List PV} {M : Mem} {Q : Option PV → Mem → Prop} {r : Nat} (hk : mK M r = 12) : WP d 244 48 [l0, l1, l2, l3, l4] (vr r :: st) M Q = WP d 244 51 [l0, l1, l2, l3, l4] (vr (mR M r 35) :: st) M Q := w_getr mC_244 d244_48 fE_12_69 rfl (by rw [hk]; rfl)
theorem d244_51 : decode cX12_taken 51 = .ok (.iload_n 1, 1) := by decide +kernel
theorem k244_51 {d : Nat} {x : Int32} {l0 l2 l3 l4 : Option PV} {st : List PV} {M : Mem} {Q : Option PV → Mem → Prop} : WP d 244 51 [l0, some (vi x), l2, l3, l4] (st) M Q = WP d 244 52 [l0, some (vi x), l2, l3, l4] (vi x :: st) M Q := w1 mC_244 d244_51 rfl rfl
theorem d244_52 : decode cX12_taken 52 = .ok (.iaload, 1) := by decide +kernel
theorem k244_52 {d : Nat} {l0 l1 l2 l3 l4 : Option PV} {st : List PV} {M : Mem} {Q : Option PV → Mem → Prop} {r : Nat} {j : Int32} (hk : mK M r = 13) (hj : inb j (mN M r)) (h1 : r ≠ 1) : WP d 244 52 [l0, l1, l2, l3, l4] (vi j :: vr r :: st) M Q = WP d 244 53 [l0, l1, l2, l3, l4] (vi (mI M r (ix j)) :: st) M Q := w_iald mC_244 d244_52 (by decide) hk hj h1
theorem d244_53 : decode cX12_taken 53 = .ok (.bipush 10, 2) := by decide +kernel
theorem k244_53 {d : Nat} {l0 l1 l2 l3 l4 : Option PV} {st : List PV} {M : Mem} {Q : Option PV → Mem → Prop} : WP d 244 53 [l0, l1, l2, l3, l4] (st) M Q = WP d 244 55 [l0, l1, l2, l3, l4] (vi 10 :: st) M Q := w_bipush mC_244 d244_53 (by decide)
theorem d244_55 : decode cX12_taken 55 = .ok (.isub, 1) := by decide +kernel
theorem k244_55 {d : Nat} {l0 l1 l2 l3 l4 : Option PV} {st : List PV} {M : Mem} {Q : Option PV → Mem → Prop} {x y : Int32} : WP d 244 55 [l0, l1, l2, l3, l4] (vi y :: vi x :: st) M Q = WP d 244 56 [l0, l1, l2, l3, l4] (vi (x - y) :: st) M Q := w1 mC_244 d244_55 rfl rfl
theorem d244_56 : decode cX12_taken 56 = .ok (.iaload, 1) := by decide +kernel
theorem k244_56 {d : Nat} {l0 l1 l2 l3 l4 : Option PV} {st : List PV} {M : Mem} {Q : Option PV → Mem → Prop} {r : Nat} {j : Int32} (hk : mK M r = 13) (hj : inb j (mN M r)) (h1 : r ≠ 1) : WP d 244 56 [l0, l1, l2, l3, l4] (vi j :: vr r :: st) M Q = WP d 244 57 [l0, l1, l2, l3, l4] (vi (mI M r (ix j)) :: st) M Q := w_iald mC_244 d244_56 (by decide) hk hj h1
theorem d244_57 : decode cX12_taken 57 = .ok (.istore_n 3, 1) := by decide +kernel
theorem k244_57 {d : Nat} {l0 l1 l2 l3 l4 : Option PV} {st : List PV} {M : Mem} {Q : Option PV → Mem → Prop} {x : Int32} : WP d 244 57 [l0, l1, l2, l3, l4] (vi x :: st) M Q = WP d 244 58 [l0, l1, l2, some (vi x), l4] (st) M Q := w1 mC_244 d244_57 rfl rfl
theorem d244_58 : decode cX12_taken 58 = .ok (.iload_n 3, 1) := by decide +kernel
theorem k244_58 {d : Nat} {x : Int32} {l0 l1 l2 l4 : Option PV} {st : List PV} {M : Mem} {Q : Option PV → Mem → Prop} : WP d 244 58 [l0, l1, l2, some (vi x), l4] (st) M Q = WP d 244 59 [l0, l1, l2, some (vi x), l4] (vi x :: st) M Q := w1 mC_244 d244_58 rfl rfl
theorem d244_59 : decode cX12_taken 59 = .ok (.istore 4, 2) := by decide +kernel
theorem k244_59 {d : Nat} {l0 l1 l2 l3 l4 : Option PV} {st : List PV} {M : Mem} {Q : Option PV → Mem → Prop} {x : Int32} : WP d 244 59 [l0, l1, l2, l3, l4] (vi x :: st) M Q = WP d 244 61 [l0, l1, l2, l3, some (vi x)] (st) M Q := w1 mC_244 d244_59 rfl rfl
theorem d244_61 : decode cX12_taken 61 = .ok (.iload 4, 2) := by decide +kernel
theorem k244_61 {d : Nat} {x : Int32} {l0 l1 l2 l3 : Option PV} {st : List PV} {M : Mem} {Q : Option PV → Mem → Prop} : WP d 244 61 [l0, l1, l2, l3, some (vi x)] (st) M Q = WP d 244 63 [l0, l1, l2, l3, some (vi x)] (vi x :: st) M Q := w1 mC_244 d244_61 rfl rfl
theorem d244_63 : decode cX12_taken 63 = .ok (.iload_n 2, 1) := by decide +kernel
theorem k244_63 {d : Nat} {x : Int32} {l0 l1 l3 l4 : Option PV} {st : List PV} {M : Mem} {Q : Option PV → Mem → Prop} : WP d 244 63 [l0, l1, some (vi x), l3, l4] (st) M Q = WP d 244 64 [l0, l1, some (vi x), l3, l4] (vi x :: st) M Q := w1 mC_244 d244_63 rfl rfl
theorem d244_64 : decode cX12_taken 64 = .ok (.if_icmp .eq 18, 3) := by decide +kernel
theorem k244_64 {d : Nat} {l0 l1 l2 l3 l4 : Option PV} {st : List PV} {M : Mem} {Q : Option PV → Mem → Prop} {x y : Int32} : WP d 244 64 [l0, l1, l2, l3, l4] (vi y :: vi x :: st) M Q = (if x = y then WP d 244 82 [l0, l1, l2, l3, l4] (st) M Q else WP d 244 67 [l0, l1, l2, l3, l4] (st) M Q) := w_ic_eq mC_244 d244_64 (by decide)
theorem d244_67 : decode cX12_taken 67 = .ok (.iload 4, 2) := by decide +kernel
theorem k244_67 {d : Nat} {x : Int32} {l0 l1 l2 l3 : Option PV} {st : List PV} {M : Mem} {Q : Option PV → Mem → Prop} : WP d 244 67 [l0, l1, l2, l3, some (vi x)] (st) M Q = WP d 244 69 [l0, l1, l2, l3, some (vi x)] (vi x :: st) M Q := w1 mC_244 d244_67 rfl rfl
theorem d244_69 : decode cX12_taken 69 = .ok (.ifCond .le 13, 3) := by decide +kernel
theorem k244_69 {d : Nat} {l0 l1 l2 l3 l4 : Option PV} {st : List PV} {M : Mem} {Q : Option PV → Mem → Prop} {x : Int32} : WP d 244 69 [l0, l1, l2, l3, l4] (vi x :: st) M Q = (if x ≤ 0 then WP d 244 82 [l0, l1, l2, l3, l4] (st) M Q else WP d 244 72 [l0, l1, l2, l3, l4] (st) M Q) := w_if_le mC_244 d244_69 (by decide)
theorem d244_72 : decode cX12_taken 72 = .ok (.iload 4, 2) := by decide +kernel
theorem k244_72 {d : Nat} {x : Int32} {l0 l1 l2 l3 : Option PV} {st : List PV} {M : Mem} {Q : Option PV → Mem → Prop} : WP d 244 72 [l0, l1, l2, l3, some (vi x)] (st) M Q = WP d 244 74 [l0, l1, l2, l3, some (vi x)] (vi x :: st) M Q := w1 mC_244 d244_72 rfl rfl
theorem d244_74 : decode cX12_taken 74 = .ok (.invokestatic 350, 3) := by decide +kernel
theorem k244_74 {d : Nat} {l0 l1 l2 l3 l4 : Option PV} {st : List PV} {M : Mem} {Q : Option PV → Mem → Prop} {a0 : Int32} (hl : szL st ≤ 8) : WP (d + 1) 244 74 [l0, l1, l2, l3, l4] (vi a0 :: st) M Q = WP d 228 0 [some (vi a0)] [] M (fun v M' => WP (d + 1) 244 77 [l0, l1, l2, l3, l4] (psh v st) M' Q) := w_callS mC_244 d244_74 rfl rfl (Nat.le_of_ble_eq_true rfl) (by decide) rfl hl
theorem d244_77 : decode cX12_taken 77 = .ok (.istore 4, 2) := by decide +kernel
theorem k244_77 {d : Nat} {l0 l1 l2 l3 l4 : Option PV} {st : List PV} {M : Mem} {Q : Option PV → Mem → Prop} {x : Int32} : WP d 244 77 [l0, l1, l2, l3, l4] (vi x :: st) M Q = WP d 244 79 [l0, l1, l2, l3, some (vi x)] (st) M Q := w1 mC_244 d244_77 rfl rfl
theorem d244_79 : decode cX12_taken 79 = .ok (.goto (-18), 3) := by decide +kernel
theorem k244_79 {d : Nat} {l0 l1 l2 l3 l4 : Option PV} {st : List PV} {M : Mem} {Q : Option PV → Mem → Prop} : WP d 244 79 [l0, l1, l2, l3, l4] (st) M Q = WP d 244 61 [l0, l1, l2, l3, l4] (st) M Q := w_goto mC_244 d244_79 (by decide)
theorem d244_82 : decode cX12_taken 82 = .ok (.iload 4, 2) := by decide +kernel
theorem k244_82 {d : Nat} {x : Int32} {l0 l1 l2 l3 : Option PV} {st : List PV} {M : Mem} {Q : Option PV → Mem → Prop} : WP d 244 82 [l0, l1, l2, l3, some (vi x)] (st) M Q = WP d 244 84 [l0, l1, l2, l3, some (vi x)] (vi x :: st) M Q := w1 mC_244 d244_82 rfl rfl
theorem d244_84 : decode cX12_taken 84 = .ok (.iload_n 2, 1) := by decide +kernel
theorem k244_84 {d : Nat} {x : Int32} {l0 l1 l3 l4 : Option PV} {st : List PV} {M : Mem} {Q : Option PV → Mem → Prop} : WP d 244 84 [l0, l1, some (vi x), l3, l4] (st) M Q = WP d 244 85 [l0, l1, some (vi x), l3, l4] (vi x :: st) M Q := w1 mC_244 d244_84 rfl rfl
theorem d244_85 : decode cX12_taken 85 = .ok (.if_icmp .ne 7, 3) := by decide +kernel
theorem k244_85 {d : Nat} {l0 l1 l2 l3 l4 : Option PV} {st : List PV} {M : Mem} {Q : Option PV → Mem → Prop} {x y : Int32} : WP d 244 85 [l0, l1, l2, l3, l4] (vi y :: vi x :: st) M Q = (if x = y then WP d 244 88 [l0, l1, l2, l3, l4] (st) M Q else WP d 244 92 [l0, l1, l2, l3, l4] (st) M Q) := w_ic_ne mC_244 d244_85 (by decide)
theorem d244_88 : decode cX12_taken 88 = .ok (.iload_n 3, 1) := by decide +kernel
theorem k244_88 {d : Nat} {x : Int32} {l0 l1 l2 l4 : Option PV} {st : List PV} {M : Mem} {Q : Option PV → Mem → Prop} : WP d 244 88 [l0, l1, l2, some (vi x), l4] (st) M Q = WP d 244 89 [l0, l1, l2, some (vi x), l4] (vi x :: st) M Q := w1 mC_244 d244_88 rfl rfl
theorem d244_89 : decode cX12_taken 89 = .ok (.goto 5, 3) := by decide +kernel
theorem k244_89 {d : Nat} {l0 l1 l2 l3 l4 : Option PV} {st : List PV} {M : Mem} {Q : Option PV → Mem → Prop} : WP d 244 89 [l0, l1, l2, l3, l4] (st) M Q = WP d 244 94 [l0, l1, l2, l3, l4] (st) M Q := w_goto mC_244 d244_89 (by decide)
theorem d244_92 : decode cX12_taken 92 = .ok (.bipush (-12), 2) := by decide +kernel
theorem k244_92 {d : Nat} {l0 l1 l2 l3 l4 : Option PV} {st : List PV} {M : Mem} {Q : Option PV → Mem → Prop} : WP d 244 92 [l0, l1, l2, l3, l4] (st) M Q = WP d 244 94 [l0, l1, l2, l3, l4] (vi (-12) :: st) M Q := w_bipush mC_244 d244_92 (by decide)
theorem d244_94 : decode cX12_taken 94 = .ok (.ireturn, 1) := by decide +kernel
theorem k244_94 {d : Nat} {l0 l1 l2 l3 l4 : Option PV} {M : Mem} {Q : Option PV → Mem → Prop} {x : Int32} : WP d 244 94 [l0, l1, l2, l3, l4] ([vi x]) M Q = Q (some (vi x)) M := w_iret mC_244 d244_94 rfl
theorem d245_0 : decode cX12_count 0 = .ok (.iload_n 1, 1) := by decide +kernel
theorem k245_0 {d : Nat} {x : Int32} {l0 : Option PV} {st : List PV} {M : Mem} {Q : Option PV → Mem → Prop} : WP d 245 0 [l0, some (vi x)] (st) M Q = WP d 245 1 [l0, some (vi x)] (vi x :: st) M Q := w1 mC_245 d245_0 rfl rfl
theorem d245_1 : decode cX12_count 1 = .ok (.tableswitch 69 0 5 #[39, 44, 49, 54, 59, 64], 39) := by decide +kernel
theorem k245_1c0 {d : Nat} {l0 l1 : Option PV} {st : List PV} {M : Mem} {Q : Option PV → Mem → Prop} : WP d 245 1 [l0, l1] (vi 0 :: st) M Q = WP d 245 40 [l0, l1] (st) M Q := w_sw mC_245 d245_1 (by decide +kernel)
theorem k245_1c1 {d : Nat} {l0 l1 : Option PV} {st : List PV} {M : Mem} {Q : Option PV → Mem → Prop} : WP d 245 1 [l0, l1] (vi 1 :: st) M Q = WP d 245 45 [l0, l1] (st) M Q := w_sw mC_245 d245_1 (by decide +kernel)
theorem k245_1c2 {d : Nat} {l0 l1 : Option PV} {st : List PV} {M : Mem} {Q : Option PV → Mem → Prop} : WP d 245 1 [l0, l1] (vi 2 :: st) M Q = WP d 245 50 [l0, l1] (st) M Q := w_sw mC_245 d245_1 (by decide +kernel)
theorem k245_1c3 {d : Nat} {l0 l1 : Option PV} {st : List PV} {M : Mem} {Q : Option PV → Mem → Prop} : WP d 245 1 [l0, l1] (vi 3 :: st) M Q = WP d 245 55 [l0, l1] (st) M Q := w_sw mC_245 d245_1 (by decide +kernel)
theorem k245_1c4 {d : Nat} {l0 l1 : Option PV} {st : List PV} {M : Mem} {Q : Option PV → Mem → Prop} : WP d 245 1 [l0, l1] (vi 4 :: st) M Q = WP d 245 60 [l0, l1] (st) M Q := w_sw mC_245 d245_1 (by decide +kernel)
theorem k245_1c5 {d : Nat} {l0 l1 : Option PV} {st : List PV} {M : Mem} {Q : Option PV → Mem → Prop} : WP d 245 1 [l0, l1] (vi 5 :: st) M Q = WP d 245 65 [l0, l1] (st) M Q := w_sw mC_245 d245_1 (by decide +kernel)
theorem k245_1 {d : Nat} {l0 l1 : Option PV} {st : List PV} {M : Mem} {Q : Option PV → Mem → Prop} {x : Int32} (h : x.toInt < 0 ∨ 5 < x.toInt) : WP d 245 1 [l0, l1] (vi x :: st) M Q = WP d 245 70 [l0, l1] (st) M Q := w_swd mC_245 d245_1 (by decide) h
theorem d245_40 : decode cX12_count 40 = .ok (.aload_n 0, 1) := by decide +kernel
theorem k245_40 {d x : Nat} {l1 : Option PV} {st : List PV} {M : Mem} {Q : Option PV → Mem → Prop} : WP d 245 40 [some (vr x), l1] (st) M Q = WP d 245 41 [some (vr x), l1] (vr x :: st) M Q := w1 mC_245 d245_40 rfl rfl
theorem d245_41 : decode cX12_count 41 = .ok (.getfield 100, 3) := by decide +kernel
theorem k245_41 {d : Nat} {l0 l1 : Option PV} {st : List PV} {M : Mem} {Q : Option PV → Mem → Prop} {r : Nat} (hk : mK M r = 12) : WP d 245 41 [l0, l1] (vr r :: st) M Q = WP d 245 44 [l0, l1] (vi (mI M r 0) :: st) M Q := w_get mC_245 d245_41 fE_12_100 rfl (by rw [hk]; rfl)
theorem d245_44 : decode cX12_count 44 = .ok (.ireturn, 1) := by decide +kernel
theorem k245_44 {d : Nat} {l0 l1 : Option PV} {M : Mem} {Q : Option PV → Mem → Prop} {x : Int32} : WP d 245 44 [l0, l1] ([vi x]) M Q = Q (some (vi x)) M := w_iret mC_245 d245_44 rfl
theorem d245_45 : decode cX12_count 45 = .ok (.aload_n 0, 1) := by decide +kernel
theorem k245_45 {d x : Nat} {l1 : Option PV} {st : List PV} {M : Mem} {Q : Option PV → Mem → Prop} : WP d 245 45 [some (vr x), l1] (st) M Q = WP d 245 46 [some (vr x), l1] (vr x :: st) M Q := w1 mC_245 d245_45 rfl rfl
theorem d245_46 : decode cX12_count 46 = .ok (.getfield 108, 3) := by decide +kernel
theorem k245_46 {d : Nat} {l0 l1 : Option PV} {st : List PV} {M : Mem} {Q : Option PV → Mem → Prop} {r : Nat} (hk : mK M r = 12) : WP d 245 46 [l0, l1] (vr r :: st) M Q = WP d 245 49 [l0, l1] (vi (mI M r 1) :: st) M Q := w_get mC_245 d245_46 fE_12_108 rfl (by rw [hk]; rfl)
theorem d245_49 : decode cX12_count 49 = .ok (.ireturn, 1) := by decide +kernel
theorem k245_49 {d : Nat} {l0 l1 : Option PV} {M : Mem} {Q : Option PV → Mem → Prop} {x : Int32} : WP d 245 49 [l0, l1] ([vi x]) M Q = Q (some (vi x)) M := w_iret mC_245 d245_49 rfl
theorem d245_50 : decode cX12_count 50 = .ok (.aload_n 0, 1) := by decide +kernel
theorem k245_50 {d x : Nat} {l1 : Option PV} {st : List PV} {M : Mem} {Q : Option PV → Mem → Prop} : WP d 245 50 [some (vr x), l1] (st) M Q = WP d 245 51 [some (vr x), l1] (vr x :: st) M Q := w1 mC_245 d245_50 rfl rfl
theorem d245_51 : decode cX12_count 51 = .ok (.getfield 158, 3) := by decide +kernel
theorem k245_51 {d : Nat} {l0 l1 : Option PV} {st : List PV} {M : Mem} {Q : Option PV → Mem → Prop} {r : Nat} (hk : mK M r = 12) : WP d 245 51 [l0, l1] (vr r :: st) M Q = WP d 245 54 [l0, l1] (vi (mI M r 4) :: st) M Q := w_get mC_245 d245_51 fE_12_158 rfl (by rw [hk]; rfl)
theorem d245_54 : decode cX12_count 54 = .ok (.ireturn, 1) := by decide +kernel
theorem k245_54 {d : Nat} {l0 l1 : Option PV} {M : Mem} {Q : Option PV → Mem → Prop} {x : Int32} : WP d 245 54 [l0, l1] ([vi x]) M Q = Q (some (vi x)) M := w_iret mC_245 d245_54 rfl
theorem d245_55 : decode cX12_count 55 = .ok (.aload_n 0, 1) := by decide +kernel
theorem k245_55 {d x : Nat} {l1 : Option PV} {st : List PV} {M : Mem} {Q : Option PV → Mem → Prop} : WP d 245 55 [some (vr x), l1] (st) M Q = WP d 245 56 [some (vr x), l1] (vr x :: st) M Q := w1 mC_245 d245_55 rfl rfl
theorem d245_56 : decode cX12_count 56 = .ok (.getfield 152, 3) := by decide +kernel
theorem k245_56 {d : Nat} {l0 l1 : Option PV} {st : List PV} {M : Mem} {Q : Option PV → Mem → Prop} {r : Nat} (hk : mK M r = 12) : WP d 245 56 [l0, l1] (vr r :: st) M Q = WP d 245 59 [l0, l1] (vi (mI M r 29) :: st) M Q := w_get mC_245 d245_56 fE_12_152 rfl (by rw [hk]; rfl)
theorem d245_59 : decode cX12_count 59 = .ok (.ireturn, 1) := by decide +kernel
theorem k245_59 {d : Nat} {l0 l1 : Option PV} {M : Mem} {Q : Option PV → Mem → Prop} {x : Int32} : WP d 245 59 [l0, l1] ([vi x]) M Q = Q (some (vi x)) M := w_iret mC_245 d245_59 rfl
theorem d245_60 : decode cX12_count 60 = .ok (.aload_n 0, 1) := by decide +kernel
theorem k245_60 {d x : Nat} {l1 : Option PV} {st : List PV} {M : Mem} {Q : Option PV → Mem → Prop} : WP d 245 60 [some (vr x), l1] (st) M Q = WP d 245 61 [some (vr x), l1] (vr x :: st) M Q := w1 mC_245 d245_60 rfl rfl
theorem d245_61 : decode cX12_count 61 = .ok (.getfield 362, 3) := by decide +kernel
theorem k245_61 {d : Nat} {l0 l1 : Option PV} {st : List PV} {M : Mem} {Q : Option PV → Mem → Prop} {r : Nat} (hk : mK M r = 12) : WP d 245 61 [l0, l1] (vr r :: st) M Q = WP d 245 64 [l0, l1] (vi (mI M r 31) :: st) M Q := w_get mC_245 d245_61 fE_12_362 rfl (by rw [hk]; rfl)
theorem d245_64 : decode cX12_count 64 = .ok (.ireturn, 1) := by decide +kernel
theorem k245_64 {d : Nat} {l0 l1 : Option PV} {M : Mem} {Q : Option PV → Mem → Prop} {x : Int32} : WP d 245 64 [l0, l1] ([vi x]) M Q = Q (some (vi x)) M := w_iret mC_245 d245_64 rfl
theorem d245_65 : decode cX12_count 65 = .ok (.aload_n 0, 1) := by decide +kernel
theorem k245_65 {d x : Nat} {l1 : Option PV} {st : List PV} {M : Mem} {Q : Option PV → Mem → Prop} : WP d 245 65 [some (vr x), l1] (st) M Q = WP d 245 66 [some (vr x), l1] (vr x :: st) M Q := w1 mC_245 d245_65 rfl rfl
theorem d245_66 : decode cX12_count 66 = .ok (.getfield 341, 3) := by decide +kernel
theorem k245_66 {d : Nat} {l0 l1 : Option PV} {st : List PV} {M : Mem} {Q : Option PV → Mem → Prop} {r : Nat} (hk : mK M r = 12) : WP d 245 66 [l0, l1] (vr r :: st) M Q = WP d 245 69 [l0, l1] (vi (mI M r 33) :: st) M Q := w_get mC_245 d245_66 fE_12_341 rfl (by rw [hk]; rfl)
theorem d245_69 : decode cX12_count 69 = .ok (.ireturn, 1) := by decide +kernel
theorem k245_69 {d : Nat} {l0 l1 : Option PV} {M : Mem} {Q : Option PV → Mem → Prop} {x : Int32} : WP d 245 69 [l0, l1] ([vi x]) M Q = Q (some (vi x)) M := w_iret mC_245 d245_69 rfl
theorem d245_70 : decode cX12_count 70 = .ok (.iconst (-1), 1) := by decide +kernel
theorem k245_70 {d : Nat} {l0 l1 : Option PV} {st : List PV} {M : Mem} {Q : Option PV → Mem → Prop} : WP d 245 70 [l0, l1] (st) M Q = WP d 245 71 [l0, l1] (vi (-1) :: st) M Q := w_iconst mC_245 d245_70 (by decide)
theorem d245_71 : decode cX12_count 71 = .ok (.ireturn, 1) := by decide +kernel
theorem k245_71 {d : Nat} {l0 l1 : Option PV} {M : Mem} {Q : Option PV → Mem → Prop} {x : Int32} : WP d 245 71 [l0, l1] ([vi x]) M Q = Q (some (vi x)) M := w_iret mC_245 d245_71 rfl
