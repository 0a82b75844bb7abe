/-! step rows, by program (wip/whole/gen_rows.py) -/
theorem d197_0 : decode cX12_backWhen 0 = .ok (.iload_n 1, 1) := by decide +kernel
theorem k197_0 {d : Nat} {x : Int32} {l0 l2 l3 : Option PV} {st : List PV} {M : Mem} {Q : Option PV → Mem → Prop} : WP d 197 0 [l0, some (vi x), l2, l3] (st) M Q = WP d 197 1 [l0, some (vi x), l2, l3] (vi x :: st) M Q := w1 mC_197 d197_0 rfl rfl
theorem d197_1 : decode cX12_backWhen 1 = .ok (.iconst (-1), 1) := by decide +kernel
theorem k197_1 {d : Nat} {l0 l1 l2 l3 : Option PV} {st : List PV} {M : Mem} {Q : Option PV → Mem → Prop} : WP d 197 1 [l0, l1, l2, l3] (st) M Q = WP d 197 2 [l0, l1, l2, l3] (vi (-1) :: st) M Q := w_iconst mC_197 d197_1 (by decide)
theorem d197_2 : decode cX12_backWhen 2 = .ok (.if_icmp .eq 13, 3) := by decide +kernel
theorem k197_2 {d : Nat} {l0 l1 l2 l3 : Option PV} {st : List PV} {M : Mem} {Q : Option PV → Mem → Prop} {x y : Int32} : WP d 197 2 [l0, l1, l2, l3] (vi y :: vi x :: st) M Q = (if x = y then WP d 197 15 [l0, l1, l2, l3] (st) M Q else WP d 197 5 [l0, l1, l2, l3] (st) M Q) := w_ic_eq mC_197 d197_2 (by decide)
theorem d197_5 : decode cX12_backWhen 5 = .ok (.aload_n 0, 1) := by decide +kernel
theorem k197_5 {d x : Nat} {l1 l2 l3 : Option PV} {st : List PV} {M : Mem} {Q : Option PV → Mem → Prop} : WP d 197 5 [some (vr x), l1, l2, l3] (st) M Q = WP d 197 6 [some (vr x), l1, l2, l3] (vr x :: st) M Q := w1 mC_197 d197_5 rfl rfl
theorem d197_6 : decode cX12_backWhen 6 = .ok (.iload_n 1, 1) := by decide +kernel
theorem k197_6 {d : Nat} {x : Int32} {l0 l2 l3 : Option PV} {st : List PV} {M : Mem} {Q : Option PV → Mem → Prop} : WP d 197 6 [l0, some (vi x), l2, l3] (st) M Q = WP d 197 7 [l0, some (vi x), l2, l3] (vi x :: st) M Q := w1 mC_197 d197_6 rfl rfl
theorem d197_7 : decode cX12_backWhen 7 = .ok (.invokevirtual 134, 3) := by decide +kernel
theorem k197_7 {d : Nat} {l0 l1 l2 l3 : Option PV} {st : List PV} {M : Mem} {Q : Option PV → Mem → Prop} {a0 : Int32} {r : Nat} (hl : szL st ≤ 8) (hk : mK M r = 12) : WP (d + 1) 197 7 [l0, l1, l2, l3] (vi a0 :: vr r :: st) M Q = WP d 147 0 [some (vr r), some (vi a0)] [] M (fun v M' => WP (d + 1) 197 10 [l0, l1, l2, l3] (psh v st) M' Q) := w_callV mC_197 d197_7 (ci := 12) rfl rfl rfl (Nat.le_of_ble_eq_true rfl) (by decide) rfl hl hk
theorem d197_10 : decode cX12_backWhen 10 = .ok (.ifCond .ne 5, 3) := by decide +kernel
theorem k197_10 {d : Nat} {l0 l1 l2 l3 : Option PV} {st : List PV} {M : Mem} {Q : Option PV → Mem → Prop} {x : Int32} : WP d 197 10 [l0, l1, l2, l3] (vi x :: st) M Q = (if x = 0 then WP d 197 13 [l0, l1, l2, l3] (st) M Q else WP d 197 15 [l0, l1, l2, l3] (st) M Q) := w_if_ne mC_197 d197_10 (by decide)
theorem d197_13 : decode cX12_backWhen 13 = .ok (.iconst (-1), 1) := by decide +kernel
theorem k197_13 {d : Nat} {l0 l1 l2 l3 : Option PV} {st : List PV} {M : Mem} {Q : Option PV → Mem → Prop} : WP d 197 13 [l0, l1, l2, l3] (st) M Q = WP d 197 14 [l0, l1, l2, l3] (vi (-1) :: st) M Q := w_iconst mC_197 d197_13 (by decide)
theorem d197_14 : decode cX12_backWhen 14 = .ok (.ireturn, 1) := by decide +kernel
theorem k197_14 {d : Nat} {l0 l1 l2 l3 : Option PV} {M : Mem} {Q : Option PV → Mem → Prop} {x : Int32} : WP d 197 14 [l0, l1, l2, l3] ([vi x]) M Q = Q (some (vi x)) M := w_iret mC_197 d197_14 rfl
theorem d197_15 : decode cX12_backWhen 15 = .ok (.aload_n 0, 1) := by decide +kernel
theorem k197_15 {d x : Nat} {l1 l2 l3 : Option PV} {st : List PV} {M : Mem} {Q : Option PV → Mem → Prop} : WP d 197 15 [some (vr x), l1, l2, l3] (st) M Q = WP d 197 16 [some (vr x), l1, l2, l3] (vr x :: st) M Q := w1 mC_197 d197_15 rfl rfl
theorem d197_16 : decode cX12_backWhen 16 = .ok (.aload_n 0, 1) := by decide +kernel
theorem k197_16 {d x : Nat} {l1 l2 l3 : Option PV} {st : List PV} {M : Mem} {Q : Option PV → Mem → Prop} : WP d 197 16 [some (vr x), l1, l2, l3] (st) M Q = WP d 197 17 [some (vr x), l1, l2, l3] (vr x :: st) M Q := w1 mC_197 d197_16 rfl rfl
theorem d197_17 : decode cX12_backWhen 17 = .ok (.getfield 79, 3) := by decide +kernel
theorem k197_17 {d : Nat} {l0 l1 l2 l3 : Option PV} {st : List PV} {M : Mem} {Q : Option PV → Mem → Prop} {r : Nat} (hk : mK M r = 12) : WP d 197 17 [l0, l1, l2, l3] (vr r :: st) M Q = WP d 197 20 [l0, l1, l2, l3] (vr (mR M r 40) :: st) M Q := w_getr mC_197 d197_17 fE_12_79 rfl (by rw [hk]; rfl)
theorem d197_20 : decode cX12_backWhen 20 = .ok (.invokevirtual 272, 3) := by decide +kernel
theorem k197_20 {d : Nat} {l0 l1 l2 l3 : Option PV} {st : List PV} {M : Mem} {Q : Option PV → Mem → Prop} {a0 : Nat} {r : Nat} (hl : szL st ≤ 8) (hk : mK M r = 12) : WP (d + 1) 197 20 [l0, l1, l2, l3] (vr a0 :: vr r :: st) M Q = WP d 190 0 [some (vr r), some (vr a0), none] [] M (fun v M' => WP (d + 1) 197 23 [l0, l1, l2, l3] (psh v st) M' Q) := w_callV mC_197 d197_20 (ci := 12) rfl rfl rfl (Nat.le_of_ble_eq_true rfl) (by decide) rfl hl hk
theorem d197_23 : decode cX12_backWhen 23 = .ok (.bipush (-2), 2) := by decide +kernel
theorem k197_23 {d : Nat} {l0 l1 l2 l3 : Option PV} {st : List PV} {M : Mem} {Q : Option PV → Mem → Prop} : WP d 197 23 [l0, l1, l2, l3] (st) M Q = WP d 197 25 [l0, l1, l2, l3] (vi (-2) :: st) M Q := w_bipush mC_197 d197_23 (by decide)
theorem d197_25 : decode cX12_backWhen 25 = .ok (.istore_n 2, 1) := by decide +kernel
theorem k197_25 {d : Nat} {l0 l1 l2 l3 : Option PV} {st : List PV} {M : Mem} {Q : Option PV → Mem → Prop} {x : Int32} : WP d 197 25 [l0, l1, l2, l3] (vi x :: st) M Q = WP d 197 26 [l0, l1, some (vi x), l3] (st) M Q := w1 mC_197 d197_25 rfl rfl
theorem d197_26 : decode cX12_backWhen 26 = .ok (.iconst 0, 1) := by decide +kernel
theorem k197_26 {d : Nat} {l0 l1 l2 l3 : Option PV} {st : List PV} {M : Mem} {Q : Option PV → Mem → Prop} : WP d 197 26 [l0, l1, l2, l3] (st) M Q = WP d 197 27 [l0, l1, l2, l3] (vi 0 :: st) M Q := w_iconst mC_197 d197_26 (by decide)
theorem d197_27 : decode cX12_backWhen 27 = .ok (.istore_n 3, 1) := by decide +kernel
theorem k197_27 {d : Nat} {l0 l1 l2 l3 : Option PV} {st : List PV} {M : Mem} {Q : Option PV → Mem → Prop} {x : Int32} : WP d 197 27 [l0, l1, l2, l3] (vi x :: st) M Q = WP d 197 28 [l0, l1, l2, some (vi x)] (st) M Q := w1 mC_197 d197_27 rfl rfl
theorem d197_28 : decode cX12_backWhen 28 = .ok (.iload_n 3, 1) := by decide +kernel
theorem k197_28 {d : Nat} {x : Int32} {l0 l1 l2 : Option PV} {st : List PV} {M : Mem} {Q : Option PV → Mem → Prop} : WP d 197 28 [l0, l1, l2, some (vi x)] (st) M Q = WP d 197 29 [l0, l1, l2, some (vi x)] (vi x :: st) M Q := w1 mC_197 d197_28 rfl rfl
theorem d197_29 : decode cX12_backWhen 29 = .ok (.bipush 40, 2) := by decide +kernel
theorem k197_29 {d : Nat} {l0 l1 l2 l3 : Option PV} {st : List PV} {M : Mem} {Q : Option PV → Mem → Prop} : WP d 197 29 [l0, l1, l2, l3] (st) M Q = WP d 197 31 [l0, l1, l2, l3] (vi 40 :: st) M Q := w_bipush mC_197 d197_29 (by decide)
theorem d197_31 : decode cX12_backWhen 31 = .ok (.if_icmp .gt 49, 3) := by decide +kernel
theorem k197_31 {d : Nat} {l0 l1 l2 l3 : Option PV} {st : List PV} {M : Mem} {Q : Option PV → Mem → Prop} {x y : Int32} : WP d 197 31 [l0, l1, l2, l3] (vi y :: vi x :: st) M Q = (if y < x then WP d 197 80 [l0, l1, l2, l3] (st) M Q else WP d 197 34 [l0, l1, l2, l3] (st) M Q) := w_ic_gt mC_197 d197_31 (by decide)
theorem d197_34 : decode cX12_backWhen 34 = .ok (.iload_n 2, 1) := by decide +kernel
theorem k197_34 {d : Nat} {x : Int32} {l0 l1 l3 : Option PV} {st : List PV} {M : Mem} {Q : Option PV → Mem → Prop} : WP d 197 34 [l0, l1, some (vi x), l3] (st) M Q = WP d 197 35 [l0, l1, some (vi x), l3] (vi x :: st) M Q := w1 mC_197 d197_34 rfl rfl
theorem d197_35 : decode cX12_backWhen 35 = .ok (.bipush (-2), 2) := by decide +kernel
theorem k197_35 {d : Nat} {l0 l1 l2 l3 : Option PV} {st : List PV} {M : Mem} {Q : Option PV → Mem → Prop} : WP d 197 35 [l0, l1, l2, l3] (st) M Q = WP d 197 37 [l0, l1, l2, l3] (vi (-2) :: st) M Q := w_bipush mC_197 d197_35 (by decide)
theorem d197_37 : decode cX12_backWhen 37 = .ok (.if_icmp .ne 43, 3) := by decide +kernel
theorem k197_37 {d : Nat} {l0 l1 l2 l3 : Option PV} {st : List PV} {M : Mem} {Q : Option PV → Mem → Prop} {x y : Int32} : WP d 197 37 [l0, l1, l2, l3] (vi y :: vi x :: st) M Q = (if x = y then WP d 197 40 [l0, l1, l2, l3] (st) M Q else WP d 197 80 [l0, l1, l2, l3] (st) M Q) := w_ic_ne mC_197 d197_37 (by decide)
theorem d197_40 : decode cX12_backWhen 40 = .ok (.iload_n 3, 1) := by decide +kernel
theorem k197_40 {d : Nat} {x : Int32} {l0 l1 l2 : Option PV} {st : List PV} {M : Mem} {Q : Option PV → Mem → Prop} : WP d 197 40 [l0, l1, l2, some (vi x)] (st) M Q = WP d 197 41 [l0, l1, l2, some (vi x)] (vi x :: st) M Q := w1 mC_197 d197_40 rfl rfl
theorem d197_41 : decode cX12_backWhen 41 = .ok (.ifCond .le 7, 3) := by decide +kernel
theorem k197_41 {d : Nat} {l0 l1 l2 l3 : Option PV} {st : List PV} {M : Mem} {Q : Option PV → Mem → Prop} {x : Int32} : WP d 197 41 [l0, l1, l2, l3] (vi x :: st) M Q = (if x ≤ 0 then WP d 197 48 [l0, l1, l2, l3] (st) M Q else WP d 197 44 [l0, l1, l2, l3] (st) M Q) := w_if_le mC_197 d197_41 (by decide)
theorem d197_44 : decode cX12_backWhen 44 = .ok (.aload_n 0, 1) := by decide +kernel
theorem k197_44 {d x : Nat} {l1 l2 l3 : Option PV} {st : List PV} {M : Mem} {Q : Option PV → Mem → Prop} : WP d 197 44 [some (vr x), l1, l2, l3] (st) M Q = WP d 197 45 [some (vr x), l1, l2, l3] (vr x :: st) M Q := w1 mC_197 d197_44 rfl rfl
theorem d197_45 : decode cX12_backWhen 45 = .ok (.invokevirtual 265, 3) := by decide +kernel
theorem k197_45 {d : Nat} {l0 l1 l2 l3 : Option PV} {st : List PV} {M : Mem} {Q : Option PV → Mem → Prop} {r : Nat} (hl : szL st ≤ 8) (hk : mK M r = 12) : WP (d + 1) 197 45 [l0, l1, l2, l3] (vr r :: st) M Q = WP d 188 0 [some (vr r), none] [] M (fun v M' => WP (d + 1) 197 48 [l0, l1, l2, l3] (psh v st) M' Q) := w_callV mC_197 d197_45 (ci := 12) rfl rfl rfl (Nat.le_of_ble_eq_true rfl) (by decide) rfl hl hk
theorem d197_48 : decode cX12_backWhen 48 = .ok (.iload_n 1, 1) := by decide +kernel
theorem k197_48 {d : Nat} {x : Int32} {l0 l2 l3 : Option PV} {st : List PV} {M : Mem} {Q : Option PV → Mem → Prop} : WP d 197 48 [l0, some (vi x), l2, l3] (st) M Q = WP d 197 49 [l0, some (vi x), l2, l3] (vi x :: st) M Q := w1 mC_197 d197_48 rfl rfl
theorem d197_49 : decode cX12_backWhen 49 = .ok (.iconst (-1), 1) := by decide +kernel
theorem k197_49 {d : Nat} {l0 l1 l2 l3 : Option PV} {st : List PV} {M : Mem} {Q : Option PV → Mem → Prop} : WP d 197 49 [l0, l1, l2, l3] (st) M Q = WP d 197 50 [l0, l1, l2, l3] (vi (-1) :: st) M Q := w_iconst mC_197 d197_49 (by decide)
theorem d197_50 : decode cX12_backWhen 50 = .ok (.if_icmp .ne 13, 3) := by decide +kernel
theorem k197_50 {d : Nat} {l0 l1 l2 l3 : Option PV} {st : List PV} {M : Mem} {Q : Option PV → Mem → Prop} {x y : Int32} : WP d 197 50 [l0, l1, l2, l3] (vi y :: vi x :: st) M Q = (if x = y then WP d 197 53 [l0, l1, l2, l3] (st) M Q else WP d 197 63 [l0, l1, l2, l3] (st) M Q) := w_ic_ne mC_197 d197_50 (by decide)
theorem d197_53 : decode cX12_backWhen 53 = .ok (.aload_n 0, 1) := by decide +kernel
theorem k197_53 {d x : Nat} {l1 l2 l3 : Option PV} {st : List PV} {M : Mem} {Q : Option PV → Mem → Prop} : WP d 197 53 [some (vr x), l1, l2, l3] (st) M Q = WP d 197 54 [some (vr x), l1, l2, l3] (vr x :: st) M Q := w1 mC_197 d197_53 rfl rfl
theorem d197_54 : decode cX12_backWhen 54 = .ok (.invokevirtual 281, 3) := by decide +kernel
theorem k197_54 {d : Nat} {l0 l1 l2 l3 : Option PV} {st : List PV} {M : Mem} {Q : Option PV → Mem → Prop} {r : Nat} (hl : szL st ≤ 8) (hk : mK M r = 12) : WP (d + 1) 197 54 [l0, l1, l2, l3] (vr r :: st) M Q = WP d 193 0 [some (vr r), none, none] [] M (fun v M' => WP (d + 1) 197 57 [l0, l1, l2, l3] (psh v st) M' Q) := w_callV mC_197 d197_54 (ci := 12) rfl rfl rfl (Nat.le_of_ble_eq_true rfl) (by decide) rfl hl hk
theorem d197_57 : decode cX12_backWhen 57 = .ok (.ifCond .ne 17, 3) := by decide +kernel
theorem k197_57 {d : Nat} {l0 l1 l2 l3 : Option PV} {st : List PV} {M : Mem} {Q : Option PV → Mem → Prop} {x : Int32} : WP d 197 57 [l0, l1, l2, l3] (vi x :: st) M Q = (if x = 0 then WP d 197 60 [l0, l1, l2, l3] (st) M Q else WP d 197 74 [l0, l1, l2, l3] (st) M Q) := w_if_ne mC_197 d197_57 (by decide)
theorem d197_60 : decode cX12_backWhen 60 = .ok (.goto 12, 3) := by decide +kernel
theorem k197_60 {d : Nat} {l0 l1 l2 l3 : Option PV} {st : List PV} {M : Mem} {Q : Option PV → Mem → Prop} : WP d 197 60 [l0, l1, l2, l3] (st) M Q = WP d 197 72 [l0, l1, l2, l3] (st) M Q := w_goto mC_197 d197_60 (by decide)
theorem d197_63 : decode cX12_backWhen 63 = .ok (.aload_n 0, 1) := by decide +kernel
theorem k197_63 {d x : Nat} {l1 l2 l3 : Option PV} {st : List PV} {M : Mem} {Q : Option PV → Mem → Prop} : WP d 197 63 [some (vr x), l1, l2, l3] (st) M Q = WP d 197 64 [some (vr x), l1, l2, l3] (vr x :: st) M Q := w1 mC_197 d197_63 rfl rfl
theorem d197_64 : decode cX12_backWhen 64 = .ok (.iload_n 1, 1) := by decide +kernel
theorem k197_64 {d : Nat} {x : Int32} {l0 l2 l3 : Option PV} {st : List PV} {M : Mem} {Q : Option PV → Mem → Prop} : WP d 197 64 [l0, some (vi x), l2, l3] (st) M Q = WP d 197 65 [l0, some (vi x), l2, l3] (vi x :: st) M Q := w1 mC_197 d197_64 rfl rfl
theorem d197_65 : decode cX12_backWhen 65 = .ok (.invokevirtual 231, 3) := by decide +kernel
theorem k197_65 {d : Nat} {l0 l1 l2 l3 : Option PV} {st : List PV} {M : Mem} {Q : Option PV → Mem → Prop} {a0 : Int32} {r : Nat} (hl : szL st ≤ 8) (hk : mK M r = 12) : WP (d + 1) 197 65 [l0, l1, l2, l3] (vi a0 :: vr r :: st) M Q = WP d 181 0 [some (vr r), some (vi a0)] [] M (fun v M' => WP (d + 1) 197 68 [l0, l1, l2, l3] (psh v st) M' Q) := w_callV mC_197 d197_65 (ci := 12) rfl rfl rfl (Nat.le_of_ble_eq_true rfl) (by decide) rfl hl hk
theorem d197_68 : decode cX12_backWhen 68 = .ok (.iconst (-1), 1) := by decide +kernel
theorem k197_68 {d : Nat} {l0 l1 l2 l3 : Option PV} {st : List PV} {M : Mem} {Q : Option PV → Mem → Prop} : WP d 197 68 [l0, l1, l2, l3] (st) M Q = WP d 197 69 [l0, l1, l2, l3] (vi (-1) :: st) M Q := w_iconst mC_197 d197_68 (by decide)
theorem d197_69 : decode cX12_backWhen 69 = .ok (.if_icmp .ne 5, 3) := by decide +kernel
theorem k197_69 {d : Nat} {l0 l1 l2 l3 : Option PV} {st : List PV} {M : Mem} {Q : Option PV → Mem → Prop} {x y : Int32} : WP d 197 69 [l0, l1, l2, l3] (vi y :: vi x :: st) M Q = (if x = y then WP d 197 72 [l0, l1, l2, l3] (st) M Q else WP d 197 74 [l0, l1, l2, l3] (st) M Q) := w_ic_ne mC_197 d197_69 (by decide)
theorem d197_72 : decode cX12_backWhen 72 = .ok (.iload_n 3, 1) := by decide +kernel
theorem k197_72 {d : Nat} {x : Int32} {l0 l1 l2 : Option PV} {st : List PV} {M : Mem} {Q : Option PV → Mem → Prop} : WP d 197 72 [l0, l1, l2, some (vi x)] (st) M Q = WP d 197 73 [l0, l1, l2, some (vi x)] (vi x :: st) M Q := w1 mC_197 d197_72 rfl rfl
theorem d197_73 : decode cX12_backWhen 73 = .ok (.istore_n 2, 1) := by decide +kernel
theorem k197_73 {d : Nat} {l0 l1 l2 l3 : Option PV} {st : List PV} {M : Mem} {Q : Option PV → Mem → Prop} {x : Int32} : WP d 197 73 [l0, l1, l2, l3] (vi x :: st) M Q = WP d 197 74 [l0, l1, some (vi x), l3] (st) M Q := w1 mC_197 d197_73 rfl rfl
theorem d197_74 : decode cX12_backWhen 74 = .ok (.iinc 3 1, 3) := by decide +kernel
theorem k197_74 {d : Nat} {x : Int32} {l0 l1 l2 : Option PV} {st : List PV} {M : Mem} {Q : Option PV → Mem → Prop} : WP d 197 74 [l0, l1, l2, some (vi x)] (st) M Q = WP d 197 77 [l0, l1, l2, some (vi (x + 1))] (st) M Q := w_iinc mC_197 d197_74 rfl (by decide) rfl
theorem d197_77 : decode cX12_backWhen 77 = .ok (.goto (-49), 3) := by decide +kernel
theorem k197_77 {d : Nat} {l0 l1 l2 l3 : Option PV} {st : List PV} {M : Mem} {Q : Option PV → Mem → Prop} : WP d 197 77 [l0, l1, l2, l3] (st) M Q = WP d 197 28 [l0, l1, l2, l3] (st) M Q := w_goto mC_197 d197_77 (by decide)
theorem d197_80 : decode cX12_backWhen 80 = .ok (.aload_n 0, 1) := by decide +kernel
theorem k197_80 {d x : Nat} {l1 l2 l3 : Option PV} {st : List PV} {M : Mem} {Q : Option PV → Mem → Prop} : WP d 197 80 [some (vr x), l1, l2, l3] (st) M Q = WP d 197 81 [some (vr x), l1, l2, l3] (vr x :: st) M Q := w1 mC_197 d197_80 rfl rfl
theorem d197_81 : decode cX12_backWhen 81 = .ok (.invokevirtual 279, 3) := by decide +kernel
theorem k197_81 {d : Nat} {l0 l1 l2 l3 : Option PV} {st : List PV} {M : Mem} {Q : Option PV → Mem → Prop} {r : Nat} (hl : szL st ≤ 8) (hk : mK M r = 12) : WP (d + 1) 197 81 [l0, l1, l2, l3] (vr r :: st) M Q = WP d 192 0 [some (vr r)] [] M (fun v M' => WP (d + 1) 197 84 [l0, l1, l2, l3] (psh v st) M' Q) := w_callV mC_197 d197_81 (ci := 12) rfl rfl rfl (Nat.le_of_ble_eq_true rfl) (by decide) rfl hl hk
theorem d197_84 : decode cX12_backWhen 84 = .ok (.iload_n 2, 1) := by decide +kernel
theorem k197_84 {d : Nat} {x : Int32} {l0 l1 l3 : Option PV} {st : List PV} {M : Mem} {Q : Option PV → Mem → Prop} : WP d 197 84 [l0, l1, some (vi x), l3] (st) M Q = WP d 197 85 [l0, l1, some (vi x), l3] (vi x :: st) M Q := w1 mC_197 d197_84 rfl rfl
theorem d197_85 : decode cX12_backWhen 85 = .ok (.ireturn, 1) := by decide +kernel
theorem k197_85 {d : Nat} {l0 l1 l2 l3 : Option PV} {M : Mem} {Q : Option PV → Mem → Prop} {x : Int32} : WP d 197 85 [l0, l1, l2, l3] ([vi x]) M Q = Q (some (vi x)) M := w_iret mC_197 d197_85 rfl
theorem d198_0 : decode cX12_gives 0 = .ok (.aload_n 0, 1) := by decide +kernel
theorem k198_0 {d x : Nat} {l1 l2 : Option PV} {st : List PV} {M : Mem} {Q : Option PV → Mem → Prop} : WP d 198 0 [some (vr x), l1, l2] (st) M Q = WP d 198 1 [some (vr x), l1, l2] (vr x :: st) M Q := w1 mC_198 d198_0 rfl rfl
theorem d198_1 : decode cX12_gives 1 = .ok (.getfield 85, 3) := by decide +kernel
theorem k198_1 {d : Nat} {l0 l1 l2 : Option PV} {st : List PV} {M : Mem} {Q : Option PV → Mem → Prop} {r : Nat} (hk : mK M r = 12) : WP d 198 1 [l0, l1, l2] (vr r :: st) M Q = WP d 198 4 [l0, l1, l2] (vr (mR M r 42) :: st) M Q := w_getr mC_198 d198_1 fE_12_85 rfl (by rw [hk]; rfl)
theorem d198_4 : decode cX12_gives 4 = .ok (.iconst 0, 1) := by decide +kernel
theorem k198_4 {d : Nat} {l0 l1 l2 : Option PV} {st : List PV} {M : Mem} {Q : Option PV → Mem → Prop} : WP d 198 4 [l0, l1, l2] (st) M Q = WP d 198 5 [l0, l1, l2] (vi 0 :: st) M Q := w_iconst mC_198 d198_4 (by decide)
theorem d198_5 : decode cX12_gives 5 = .ok (.bipush (-2), 2) := by decide +kernel
theorem k198_5 {d : Nat} {l0 l1 l2 : Option PV} {st : List PV} {M : Mem} {Q : Option PV → Mem → Prop} : WP d 198 5 [l0, l1, l2] (st) M Q = WP d 198 7 [l0, l1, l2] (vi (-2) :: st) M Q := w_bipush mC_198 d198_5 (by decide)
theorem d198_7 : decode cX12_gives 7 = .ok (.iastore, 1) := by decide +kernel
theorem k198_7 {d : Nat} {l0 l1 l2 : Option PV} {st : List PV} {M : Mem} {Q : Option PV → Mem → Prop} {r : Nat} {j x : Int32} (hk : mK M r = 13) (hj : inb j (mN M r)) (h1 : r ≠ 1) : WP d 198 7 [l0, l1, l2] (vi x :: vi j :: vr r :: st) M Q = WP d 198 8 [l0, l1, l2] (st) (sI M r (ix j) x) Q := w_iast mC_198 d198_7 hk hj h1
theorem d198_8 : decode cX12_gives 8 = .ok (.aload_n 0, 1) := by decide +kernel
theorem k198_8 {d x : Nat} {l1 l2 : Option PV} {st : List PV} {M : Mem} {Q : Option PV → Mem → Prop} : WP d 198 8 [some (vr x), l1, l2] (st) M Q = WP d 198 9 [some (vr x), l1, l2] (vr x :: st) M Q := w1 mC_198 d198_8 rfl rfl
theorem d198_9 : decode cX12_gives 9 = .ok (.getfield 85, 3) := by decide +kernel
theorem k198_9 {d : Nat} {l0 l1 l2 : Option PV} {st : List PV} {M : Mem} {Q : Option PV → Mem → Prop} {r : Nat} (hk : mK M r = 12) : WP d 198 9 [l0, l1, l2] (vr r :: st) M Q = WP d 198 12 [l0, l1, l2] (vr (mR M r 42) :: st) M Q := w_getr mC_198 d198_9 fE_12_85 rfl (by rw [hk]; rfl)
theorem d198_12 : decode cX12_gives 12 = .ok (.iconst 1, 1) := by decide +kernel
theorem k198_12 {d : Nat} {l0 l1 l2 : Option PV} {st : List PV} {M : Mem} {Q : Option PV → Mem → Prop} : WP d 198 12 [l0, l1, l2] (st) M Q = WP d 198 13 [l0, l1, l2] (vi 1 :: st) M Q := w_iconst mC_198 d198_12 (by decide)
theorem d198_13 : decode cX12_gives 13 = .ok (.bipush (-2), 2) := by decide +kernel
theorem k198_13 {d : Nat} {l0 l1 l2 : Option PV} {st : List PV} {M : Mem} {Q : Option PV → Mem → Prop} : WP d 198 13 [l0, l1, l2] (st) M Q = WP d 198 15 [l0, l1, l2] (vi (-2) :: st) M Q := w_bipush mC_198 d198_13 (by decide)
theorem d198_15 : decode cX12_gives 15 = .ok (.iastore, 1) := by decide +kernel
theorem k198_15 {d : Nat} {l0 l1 l2 : Option PV} {st : List PV} {M : Mem} {Q : Option PV → Mem → Prop} {r : Nat} {j x : Int32} (hk : mK M r = 13) (hj : inb j (mN M r)) (h1 : r ≠ 1) : WP d 198 15 [l0, l1, l2] (vi x :: vi j :: vr r :: st) M Q = WP d 198 16 [l0, l1, l2] (st) (sI M r (ix j) x) Q := w_iast mC_198 d198_15 hk hj h1
theorem d198_16 : decode cX12_gives 16 = .ok (.aload_n 0, 1) := by decide +kernel
theorem k198_16 {d x : Nat} {l1 l2 : Option PV} {st : List PV} {M : Mem} {Q : Option PV → Mem → Prop} : WP d 198 16 [some (vr x), l1, l2] (st) M Q = WP d 198 17 [some (vr x), l1, l2] (vr x :: st) M Q := w1 mC_198 d198_16 rfl rfl
theorem d198_17 : decode cX12_gives 17 = .ok (.iload_n 1, 1) := by decide +kernel
theorem k198_17 {d : Nat} {x : Int32} {l0 l2 : Option PV} {st : List PV} {M : Mem} {Q : Option PV → Mem → Prop} : WP d 198 17 [l0, some (vi x), l2] (st) M Q = WP d 198 18 [l0, some (vi x), l2] (vi x :: st) M Q := w1 mC_198 d198_17 rfl rfl
theorem d198_18 : decode cX12_gives 18 = .ok (.invokevirtual 231, 3) := by decide +kernel
theorem k198_18 {d : Nat} {l0 l1 l2 : Option PV} {st : List PV} {M : Mem} {Q : Option PV → Mem → Prop} {a0 : Int32} {r : Nat} (hl : szL st ≤ 8) (hk : mK M r = 12) : WP (d + 1) 198 18 [l0, l1, l2] (vi a0 :: vr r :: st) M Q = WP d 181 0 [some (vr r), some (vi a0)] [] M (fun v M' => WP (d + 1) 198 21 [l0, l1, l2] (psh v st) M' Q) := w_callV mC_198 d198_18 (ci := 12) rfl rfl rfl (Nat.le_of_ble_eq_true rfl) (by decide) rfl hl hk
theorem d198_21 : decode cX12_gives 21 = .ok (.iconst (-1), 1) := by decide +kernel
theorem k198_21 {d : Nat} {l0 l1 l2 : Option PV} {st : List PV} {M : Mem} {Q : Option PV → Mem → Prop} : WP d 198 21 [l0, l1, l2] (st) M Q = WP d 198 22 [l0, l1, l2] (vi (-1) :: st) M Q := w_iconst mC_198 d198_21 (by decide)
theorem d198_22 : decode cX12_gives 22 = .ok (.if_icmp .ne 4, 3) := by decide +kernel
theorem k198_22 {d : Nat} {l0 l1 l2 : Option PV} {st : List PV} {M : Mem} {Q : Option PV → Mem → Prop} {x y : Int32} : WP d 198 22 [l0, l1, l2] (vi y :: vi x :: st) M Q = (if x = y then WP d 198 25 [l0, l1, l2] (st) M Q else WP d 198 26 [l0, l1, l2] (st) M Q) := w_ic_ne mC_198 d198_22 (by decide)
theorem d198_25 : decode cX12_gives 25 = .ok (.return_, 1) := by decide +kernel
theorem k198_25 {d : Nat} {l0 l1 l2 : Option PV} {M : Mem} {Q : Option PV → Mem → Prop} : WP d 198 25 [l0, l1, l2] ([]) M Q = Q none M := w_vret mC_198 d198_25 rfl
theorem d198_26 : decode cX12_gives 26 = .ok (.aload_n 0, 1) := by decide +kernel
theorem k198_26 {d x : Nat} {l1 l2 : Option PV} {st : List PV} {M : Mem} {Q : Option PV → Mem → Prop} : WP d 198 26 [some (vr x), l1, l2] (st) M Q = WP d 198 27 [some (vr x), l1, l2] (vr x :: st) M Q := w1 mC_198 d198_26 rfl rfl
theorem d198_27 : decode cX12_gives 27 = .ok (.aload_n 0, 1) := by decide +kernel
theorem k198_27 {d x : Nat} {l1 l2 : Option PV} {st : List PV} {M : Mem} {Q : Option PV → Mem → Prop} : WP d 198 27 [some (vr x), l1, l2] (st) M Q = WP d 198 28 [some (vr x), l1, l2] (vr x :: st) M Q := w1 mC_198 d198_27 rfl rfl
theorem d198_28 : decode cX12_gives 28 = .ok (.getfield 79, 3) := by decide +kernel
theorem k198_28 {d : Nat} {l0 l1 l2 : Option PV} {st : List PV} {M : Mem} {Q : Option PV → Mem → Prop} {r : Nat} (hk : mK M r = 12) : WP d 198 28 [l0, l1, l2] (vr r :: st) M Q = WP d 198 31 [l0, l1, l2] (vr (mR M r 40) :: st) M Q := w_getr mC_198 d198_28 fE_12_79 rfl (by rw [hk]; rfl)
theorem d198_31 : decode cX12_gives 31 = .ok (.invokevirtual 272, 3) := by decide +kernel
theorem k198_31 {d : Nat} {l0 l1 l2 : Option PV} {st : List PV} {M : Mem} {Q : Option PV → Mem → Prop} {a0 : Nat} {r : Nat} (hl : szL st ≤ 8) (hk : mK M r = 12) : WP (d + 1) 198 31 [l0, l1, l2] (vr a0 :: vr r :: st) M Q = WP d 190 0 [some (vr r), some (vr a0), none] [] M (fun v M' => WP (d + 1) 198 34 [l0, l1, l2] (psh v st) M' Q) := w_callV mC_198 d198_31 (ci := 12) rfl rfl rfl (Nat.le_of_ble_eq_true rfl) (by decide) rfl hl hk
theorem d198_34 : decode cX12_gives 34 = .ok (.iconst 1, 1) := by decide +kernel
theorem k198_34 {d : Nat} {l0 l1 l2 : Option PV} {st : List PV} {M : Mem} {Q : Option PV → Mem → Prop} : WP d 198 34 [l0, l1, l2] (st) M Q = WP d 198 35 [l0, l1, l2] (vi 1 :: st) M Q := w_iconst mC_198 d198_34 (by decide)
theorem d198_35 : decode cX12_gives 35 = .ok (.istore_n 2, 1) := by decide +kernel
theorem k198_35 {d : Nat} {l0 l1 l2 : Option PV} {st : List PV} {M : Mem} {Q : Option PV → Mem → Prop} {x : Int32} : WP d 198 35 [l0, l1, l2] (vi x :: st) M Q = WP d 198 36 [l0, l1, some (vi x)] (st) M Q := w1 mC_198 d198_35 rfl rfl
theorem d198_36 : decode cX12_gives 36 = .ok (.iload_n 2, 1) := by decide +kernel
theorem k198_36 {d : Nat} {x : Int32} {l0 l1 : Option PV} {st : List PV} {M : Mem} {Q : Option PV → Mem → Prop} : WP d 198 36 [l0, l1, some (vi x)] (st) M Q = WP d 198 37 [l0, l1, some (vi x)] (vi x :: st) M Q := w1 mC_198 d198_36 rfl rfl
theorem d198_37 : decode cX12_gives 37 = .ok (.bipush 24, 2) := by decide +kernel
theorem k198_37 {d : Nat} {l0 l1 l2 : Option PV} {st : List PV} {M : Mem} {Q : Option PV → Mem → Prop} : WP d 198 37 [l0, l1, l2] (st) M Q = WP d 198 39 [l0, l1, l2] (vi 24 :: st) M Q := w_bipush mC_198 d198_37 (by decide)
theorem d198_39 : decode cX12_gives 39 = .ok (.if_icmp .gt 58, 3) := by decide +kernel
theorem k198_39 {d : Nat} {l0 l1 l2 : Option PV} {st : List PV} {M : Mem} {Q : Option PV → Mem → Prop} {x y : Int32} : WP d 198 39 [l0, l1, l2] (vi y :: vi x :: st) M Q = (if y < x then WP d 198 97 [l0, l1, l2] (st) M Q else WP d 198 42 [l0, l1, l2] (st) M Q) := w_ic_gt mC_198 d198_39 (by decide)
theorem d198_42 : decode cX12_gives 42 = .ok (.aload_n 0, 1) := by decide +kernel
theorem k198_42 {d x : Nat} {l1 l2 : Option PV} {st : List PV} {M : Mem} {Q : Option PV → Mem → Prop} : WP d 198 42 [some (vr x), l1, l2] (st) M Q = WP d 198 43 [some (vr x), l1, l2] (vr x :: st) M Q := w1 mC_198 d198_42 rfl rfl
theorem d198_43 : decode cX12_gives 43 = .ok (.getfield 85, 3) := by decide +kernel
theorem k198_43 {d : Nat} {l0 l1 l2 : Option PV} {st : List PV} {M : Mem} {Q : Option PV → Mem → Prop} {r : Nat} (hk : mK M r = 12) : WP d 198 43 [l0, l1, l2] (vr r :: st) M Q = WP d 198 46 [l0, l1, l2] (vr (mR M r 42) :: st) M Q := w_getr mC_198 d198_43 fE_12_85 rfl (by rw [hk]; rfl)
theorem d198_46 : decode cX12_gives 46 = .ok (.iconst 1, 1) := by decide +kernel
theorem k198_46 {d : Nat} {l0 l1 l2 : Option PV} {st : List PV} {M : Mem} {Q : Option PV → Mem → Prop} : WP d 198 46 [l0, l1, l2] (st) M Q = WP d 198 47 [l0, l1, l2] (vi 1 :: st) M Q := w_iconst mC_198 d198_46 (by decide)
theorem d198_47 : decode cX12_gives 47 = .ok (.iaload, 1) := by decide +kernel
theorem k198_47 {d : Nat} {l0 l1 l2 : Option PV} {st : List PV} {M : Mem} {Q : Option PV → Mem → Prop} {r : Nat} {j : Int32} (hk : mK M r = 13) (hj : inb j (mN M r)) (h1 : r ≠ 1) : WP d 198 47 [l0, l1, l2] (vi j :: vr r :: st) M Q = WP d 198 48 [l0, l1, l2] (vi (mI M r (ix j)) :: st) M Q := w_iald mC_198 d198_47 (by decide) hk hj h1
theorem d198_48 : decode cX12_gives 48 = .ok (.bipush (-2), 2) := by decide +kernel
theorem k198_48 {d : Nat} {l0 l1 l2 : Option PV} {st : List PV} {M : Mem} {Q : Option PV → Mem → Prop} : WP d 198 48 [l0, l1, l2] (st) M Q = WP d 198 50 [l0, l1, l2] (vi (-2) :: st) M Q := w_bipush mC_198 d198_48 (by decide)
theorem d198_50 : decode cX12_gives 50 = .ok (.if_icmp .ne 47, 3) := by decide +kernel
theorem k198_50 {d : Nat} {l0 l1 l2 : Option PV} {st : List PV} {M : Mem} {Q : Option PV → Mem → Prop} {x y : Int32} : WP d 198 50 [l0, l1, l2] (vi y :: vi x :: st) M Q = (if x = y then WP d 198 53 [l0, l1, l2] (st) M Q else WP d 198 97 [l0, l1, l2] (st) M Q) := w_ic_ne mC_198 d198_50 (by decide)
theorem d198_53 : decode cX12_gives 53 = .ok (.aload_n 0, 1) := by decide +kernel
theorem k198_53 {d x : Nat} {l1 l2 : Option PV} {st : List PV} {M : Mem} {Q : Option PV → Mem → Prop} : WP d 198 53 [some (vr x), l1, l2] (st) M Q = WP d 198 54 [some (vr x), l1, l2] (vr x :: st) M Q := w1 mC_198 d198_53 rfl rfl
theorem d198_54 : decode cX12_gives 54 = .ok (.iload_n 1, 1) := by decide +kernel
theorem k198_54 {d : Nat} {x : Int32} {l0 l2 : Option PV} {st : List PV} {M : Mem} {Q : Option PV → Mem → Prop} : WP d 198 54 [l0, some (vi x), l2] (st) M Q = WP d 198 55 [l0, some (vi x), l2] (vi x :: st) M Q := w1 mC_198 d198_54 rfl rfl
theorem d198_55 : decode cX12_gives 55 = .ok (.invokevirtual 261, 3) := by decide +kernel
theorem k198_55 {d : Nat} {l0 l1 l2 : Option PV} {st : List PV} {M : Mem} {Q : Option PV → Mem → Prop} {a0 : Int32} {r : Nat} (hl : szL st ≤ 8) (hk : mK M r = 12) : WP (d + 1) 198 55 [l0, l1, l2] (vi a0 :: vr r :: st) M Q = WP d 187 0 [some (vr r), some (vi a0), none, none] [] M (fun v M' => WP (d + 1) 198 58 [l0, l1, l2] (psh v st) M' Q) := w_callV mC_198 d198_55 (ci := 12) rfl rfl rfl (Nat.le_of_ble_eq_true rfl) (by decide) rfl hl hk
theorem d198_58 : decode cX12_gives 58 = .ok (.aload_n 0, 1) := by decide +kernel
theorem k198_58 {d x : Nat} {l1 l2 : Option PV} {st : List PV} {M : Mem} {Q : Option PV → Mem → Prop} : WP d 198 58 [some (vr x), l1, l2] (st) M Q = WP d 198 59 [some (vr x), l1, l2] (vr x :: st) M Q := w1 mC_198 d198_58 rfl rfl
theorem d198_59 : decode cX12_gives 59 = .ok (.getfield 15, 3) := by decide +kernel
theorem k198_59 {d : Nat} {l0 l1 l2 : Option PV} {st : List PV} {M : Mem} {Q : Option PV → Mem → Prop} {r : Nat} (hk : mK M r = 12) : WP d 198 59 [l0, l1, l2] (vr r :: st) M Q = WP d 198 62 [l0, l1, l2] (vr (mR M r 3) :: st) M Q := w_getr mC_198 d198_59 fE_12_15 rfl (by rw [hk]; rfl)
theorem d198_62 : decode cX12_gives 62 = .ok (.iconst 1, 1) := by decide +kernel
theorem k198_62 {d : Nat} {l0 l1 l2 : Option PV} {st : List PV} {M : Mem} {Q : Option PV → Mem → Prop} : WP d 198 62 [l0, l1, l2] (st) M Q = WP d 198 63 [l0, l1, l2] (vi 1 :: st) M Q := w_iconst mC_198 d198_62 (by decide)
theorem d198_63 : decode cX12_gives 63 = .ok (.aload_n 0, 1) := by decide +kernel
theorem k198_63 {d x : Nat} {l1 l2 : Option PV} {st : List PV} {M : Mem} {Q : Option PV → Mem → Prop} : WP d 198 63 [some (vr x), l1, l2] (st) M Q = WP d 198 64 [some (vr x), l1, l2] (vr x :: st) M Q := w1 mC_198 d198_63 rfl rfl
theorem d198_64 : decode cX12_gives 64 = .ok (.getfield 15, 3) := by decide +kernel
theorem k198_64 {d : Nat} {l0 l1 l2 : Option PV} {st : List PV} {M : Mem} {Q : Option PV → Mem → Prop} {r : Nat} (hk : mK M r = 12) : WP d 198 64 [l0, l1, l2] (vr r :: st) M Q = WP d 198 67 [l0, l1, l2] (vr (mR M r 3) :: st) M Q := w_getr mC_198 d198_64 fE_12_15 rfl (by rw [hk]; rfl)
theorem d198_67 : decode cX12_gives 67 = .ok (.iconst 1, 1) := by decide +kernel
theorem k198_67 {d : Nat} {l0 l1 l2 : Option PV} {st : List PV} {M : Mem} {Q : Option PV → Mem → Prop} : WP d 198 67 [l0, l1, l2] (st) M Q = WP d 198 68 [l0, l1, l2] (vi 1 :: st) M Q := w_iconst mC_198 d198_67 (by decide)
theorem d198_68 : decode cX12_gives 68 = .ok (.iaload, 1) := by decide +kernel
theorem k198_68 {d : Nat} {l0 l1 l2 : Option PV} {st : List PV} {M : Mem} {Q : Option PV → Mem → Prop} {r : Nat} {j : Int32} (hk : mK M r = 13) (hj : inb j (mN M r)) (h1 : r ≠ 1) : WP d 198 68 [l0, l1, l2] (vi j :: vr r :: st) M Q = WP d 198 69 [l0, l1, l2] (vi (mI M r (ix j)) :: st) M Q := w_iald mC_198 d198_68 (by decide) hk hj h1
theorem d198_69 : decode cX12_gives 69 = .ok (.iconst 1, 1) := by decide +kernel
theorem k198_69 {d : Nat} {l0 l1 l2 : Option PV} {st : List PV} {M : Mem} {Q : Option PV → Mem → Prop} : WP d 198 69 [l0, l1, l2] (st) M Q = WP d 198 70 [l0, l1, l2] (vi 1 :: st) M Q := w_iconst mC_198 d198_69 (by decide)
theorem d198_70 : decode cX12_gives 70 = .ok (.iadd, 1) := by decide +kernel
theorem k198_70 {d : Nat} {l0 l1 l2 : Option PV} {st : List PV} {M : Mem} {Q : Option PV → Mem → Prop} {x y : Int32} : WP d 198 70 [l0, l1, l2] (vi y :: vi x :: st) M Q = WP d 198 71 [l0, l1, l2] (vi (x + y) :: st) M Q := w1 mC_198 d198_70 rfl rfl
theorem d198_71 : decode cX12_gives 71 = .ok (.bipush 12, 2) := by decide +kernel
theorem k198_71 {d : Nat} {l0 l1 l2 : Option PV} {st : List PV} {M : Mem} {Q : Option PV → Mem → Prop} : WP d 198 71 [l0, l1, l2] (st) M Q = WP d 198 73 [l0, l1, l2] (vi 12 :: st) M Q := w_bipush mC_198 d198_71 (by decide)
theorem d198_73 : decode cX12_gives 73 = .ok (.irem, 1) := by decide +kernel
theorem k198_73 {d : Nat} {l0 l1 l2 : Option PV} {st : List PV} {M : Mem} {Q : Option PV → Mem → Prop} {x y : Int32} (h : y ≠ 0) : WP d 198 73 [l0, l1, l2] (vi y :: vi x :: st) M Q = WP d 198 74 [l0, l1, l2] (vi (x % y) :: st) M Q := w_rem mC_198 d198_73 h
theorem d198_74 : decode cX12_gives 74 = .ok (.iastore, 1) := by decide +kernel
theorem k198_74 {d : Nat} {l0 l1 l2 : Option PV} {st : List PV} {M : Mem} {Q : Option PV → Mem → Prop} {r : Nat} {j x : Int32} (hk : mK M r = 13) (hj : inb j (mN M r)) (h1 : r ≠ 1) : WP d 198 74 [l0, l1, l2] (vi x :: vi j :: vr r :: st) M Q = WP d 198 75 [l0, l1, l2] (st) (sI M r (ix j) x) Q := w_iast mC_198 d198_74 hk hj h1
theorem d198_75 : decode cX12_gives 75 = .ok (.aload_n 0, 1) := by decide +kernel
theorem k198_75 {d x : Nat} {l1 l2 : Option PV} {st : List PV} {M : Mem} {Q : Option PV → Mem → Prop} : WP d 198 75 [some (vr x), l1, l2] (st) M Q = WP d 198 76 [some (vr x), l1, l2] (vr x :: st) M Q := w1 mC_198 d198_75 rfl rfl
theorem d198_76 : decode cX12_gives 76 = .ok (.iload_n 1, 1) := by decide +kernel
theorem k198_76 {d : Nat} {x : Int32} {l0 l2 : Option PV} {st : List PV} {M : Mem} {Q : Option PV → Mem → Prop} : WP d 198 76 [l0, some (vi x), l2] (st) M Q = WP d 198 77 [l0, some (vi x), l2] (vi x :: st) M Q := w1 mC_198 d198_76 rfl rfl
theorem d198_77 : decode cX12_gives 77 = .ok (.invokevirtual 231, 3) := by decide +kernel
theorem k198_77 {d : Nat} {l0 l1 l2 : Option PV} {st : List PV} {M : Mem} {Q : Option PV → Mem → Prop} {a0 : Int32} {r : Nat} (hl : szL st ≤ 8) (hk : mK M r = 12) : WP (d + 1) 198 77 [l0, l1, l2] (vi a0 :: vr r :: st) M Q = WP d 181 0 [some (vr r), some (vi a0)] [] M (fun v M' => WP (d + 1) 198 80 [l0, l1, l2] (psh v st) M' Q) := w_callV mC_198 d198_77 (ci := 12) rfl rfl rfl (Nat.le_of_ble_eq_true rfl) (by decide) rfl hl hk
theorem d198_80 : decode cX12_gives 80 = .ok (.iconst (-1), 1) := by decide +kernel
theorem k198_80 {d : Nat} {l0 l1 l2 : Option PV} {st : List PV} {M : Mem} {Q : Option PV → Mem → Prop} : WP d 198 80 [l0, l1, l2] (st) M Q = WP d 198 81 [l0, l1, l2] (vi (-1) :: st) M Q := w_iconst mC_198 d198_80 (by decide)
theorem d198_81 : decode cX12_gives 81 = .ok (.if_icmp .ne 10, 3) := by decide +kernel
theorem k198_81 {d : Nat} {l0 l1 l2 : Option PV} {st : List PV} {M : Mem} {Q : Option PV → Mem → Prop} {x y : Int32} : WP d 198 81 [l0, l1, l2] (vi y :: vi x :: st) M Q = (if x = y then WP d 198 84 [l0, l1, l2] (st) M Q else WP d 198 91 [l0, l1, l2] (st) M Q) := w_ic_ne mC_198 d198_81 (by decide)
theorem d198_84 : decode cX12_gives 84 = .ok (.aload_n 0, 1) := by decide +kernel
theorem k198_84 {d x : Nat} {l1 l2 : Option PV} {st : List PV} {M : Mem} {Q : Option PV → Mem → Prop} : WP d 198 84 [some (vr x), l1, l2] (st) M Q = WP d 198 85 [some (vr x), l1, l2] (vr x :: st) M Q := w1 mC_198 d198_84 rfl rfl
theorem d198_85 : decode cX12_gives 85 = .ok (.getfield 85, 3) := by decide +kernel
theorem k198_85 {d : Nat} {l0 l1 l2 : Option PV} {st : List PV} {M : Mem} {Q : Option PV → Mem → Prop} {r : Nat} (hk : mK M r = 12) : WP d 198 85 [l0, l1, l2] (vr r :: st) M Q = WP d 198 88 [l0, l1, l2] (vr (mR M r 42) :: st) M Q := w_getr mC_198 d198_85 fE_12_85 rfl (by rw [hk]; rfl)
theorem d198_88 : decode cX12_gives 88 = .ok (.iconst 1, 1) := by decide +kernel
theorem k198_88 {d : Nat} {l0 l1 l2 : Option PV} {st : List PV} {M : Mem} {Q : Option PV → Mem → Prop} : WP d 198 88 [l0, l1, l2] (st) M Q = WP d 198 89 [l0, l1, l2] (vi 1 :: st) M Q := w_iconst mC_198 d198_88 (by decide)
theorem d198_89 : decode cX12_gives 89 = .ok (.iload_n 2, 1) := by decide +kernel
theorem k198_89 {d : Nat} {x : Int32} {l0 l1 : Option PV} {st : List PV} {M : Mem} {Q : Option PV → Mem → Prop} : WP d 198 89 [l0, l1, some (vi x)] (st) M Q = WP d 198 90 [l0, l1, some (vi x)] (vi x :: st) M Q := w1 mC_198 d198_89 rfl rfl
theorem d198_90 : decode cX12_gives 90 = .ok (.iastore, 1) := by decide +kernel
theorem k198_90 {d : Nat} {l0 l1 l2 : Option PV} {st : List PV} {M : Mem} {Q : Option PV → Mem → Prop} {r : Nat} {j x : Int32} (hk : mK M r = 13) (hj : inb j (mN M r)) (h1 : r ≠ 1) : WP d 198 90 [l0, l1, l2] (vi x :: vi j :: vr r :: st) M Q = WP d 198 91 [l0, l1, l2] (st) (sI M r (ix j) x) Q := w_iast mC_198 d198_90 hk hj h1
theorem d198_91 : decode cX12_gives 91 = .ok (.iinc 2 1, 3) := by decide +kernel
theorem k198_91 {d : Nat} {x : Int32} {l0 l1 : Option PV} {st : List PV} {M : Mem} {Q : Option PV → Mem → Prop} : WP d 198 91 [l0, l1, some (vi x)] (st) M Q = WP d 198 94 [l0, l1, some (vi (x + 1))] (st) M Q := w_iinc mC_198 d198_91 rfl (by decide) rfl
theorem d198_94 : decode cX12_gives 94 = .ok (.goto (-58), 3) := by decide +kernel
theorem k198_94 {d : Nat} {l0 l1 l2 : Option PV} {st : List PV} {M : Mem} {Q : Option PV → Mem → Prop} : WP d 198 94 [l0, l1, l2] (st) M Q = WP d 198 36 [l0, l1, l2] (st) M Q := w_goto mC_198 d198_94 (by decide)
theorem d198_97 : decode cX12_gives 97 = .ok (.aload_n 0, 1) := by decide +kernel
theorem k198_97 {d x : Nat} {l1 l2 : Option PV} {st : List PV} {M : Mem} {Q : Option PV → Mem → Prop} : WP d 198 97 [some (vr x), l1, l2] (st) M Q = WP d 198 98 [some (vr x), l1, l2] (vr x :: st) M Q := w1 mC_198 d198_97 rfl rfl
theorem d198_98 : decode cX12_gives 98 = .ok (.invokevirtual 279, 3) := by decide +kernel
theorem k198_98 {d : Nat} {l0 l1 l2 : Option PV} {st : List PV} {M : Mem} {Q : Option PV → Mem → Prop} {r : Nat} (hl : szL st ≤ 8) (hk : mK M r = 12) : WP (d + 1) 198 98 [l0, l1, l2] (vr r :: st) M Q = WP d 192 0 [some (vr r)] [] M (fun v M' => WP (d + 1) 198 101 [l0, l1, l2] (psh v st) M' Q) := w_callV mC_198 d198_98 (ci := 12) rfl rfl rfl (Nat.le_of_ble_eq_true rfl) (by decide) rfl hl hk
theorem d198_101 : decode cX12_gives 101 = .ok (.return_, 1) := by decide +kernel
theorem k198_101 {d : Nat} {l0 l1 l2 : Option PV} {M : Mem} {Q : Option PV → Mem → Prop} : WP d 198 101 [l0, l1, l2] ([]) M Q = Q none M := w_vret mC_198 d198_101 rfl
theorem d199_0 : decode cX12_lent 0 = .ok (.aload_n 0, 1) := by decide +kernel
theorem k199_0 {d x : Nat} {l1 l2 l3 l4 l5 : Option PV} {st : List PV} {M : Mem} {Q : Option PV → Mem → Prop} : WP d 199 0 [some (vr x), l1, l2, l3, l4, l5] (st) M Q = WP d 199 1 [some (vr x), l1, l2, l3, l4, l5] (vr x :: st) M Q := w1 mC_199 d199_0 rfl rfl
theorem d199_1 : decode cX12_lent 1 = .ok (.iload_n 2, 1) := by decide +kernel
theorem k199_1 {d : Nat} {x : Int32} {l0 l1 l3 l4 l5 : Option PV} {st : List PV} {M : Mem} {Q : Option PV → Mem → Prop} : WP d 199 1 [l0, l1, some (vi x), l3, l4, l5] (st) M Q = WP d 199 2 [l0, l1, some (vi x), l3, l4, l5] (vi x :: st) M Q := w1 mC_199 d199_1 rfl rfl
theorem d199_2 : decode cX12_lent 2 = .ok (.invokevirtual 231, 3) := by decide +kernel
theorem k199_2 {d : Nat} {l0 l1 l2 l3 l4 l5 : Option PV} {st : List PV} {M : Mem} {Q : Option PV → Mem → Prop} {a0 : Int32} {r : Nat} (hl : szL st ≤ 8) (hk : mK M r = 12) : WP (d + 1) 199 2 [l0, l1, l2, l3, l4, l5] (vi a0 :: vr r :: st) M Q = WP d 181 0 [some (vr r), some (vi a0)] [] M (fun v M' => WP (d + 1) 199 5 [l0, l1, l2, l3, l4, l5] (psh v st) M' Q) := w_callV mC_199 d199_2 (ci := 12) rfl rfl rfl (Nat.le_of_ble_eq_true rfl) (by decide) rfl hl hk
theorem d199_5 : decode cX12_lent 5 = .ok (.istore 4, 2) := by decide +kernel
theorem k199_5 {d : Nat} {l0 l1 l2 l3 l4 l5 : Option PV} {st : List PV} {M : Mem} {Q : Option PV → Mem → Prop} {x : Int32} : WP d 199 5 [l0, l1, l2, l3, l4, l5] (vi x :: st) M Q = WP d 199 7 [l0, l1, l2, l3, some (vi x), l5] (st) M Q := w1 mC_199 d199_5 rfl rfl
theorem d199_7 : decode cX12_lent 7 = .ok (.aload_n 0, 1) := by decide +kernel
theorem k199_7 {d x : Nat} {l1 l2 l3 l4 l5 : Option PV} {st : List PV} {M : Mem} {Q : Option PV → Mem → Prop} : WP d 199 7 [some (vr x), l1, l2, l3, l4, l5] (st) M Q = WP d 199 8 [some (vr x), l1, l2, l3, l4, l5] (vr x :: st) M Q := w1 mC_199 d199_7 rfl rfl
theorem d199_8 : decode cX12_lent 8 = .ok (.iload_n 2, 1) := by decide +kernel
theorem k199_8 {d : Nat} {x : Int32} {l0 l1 l3 l4 l5 : Option PV} {st : List PV} {M : Mem} {Q : Option PV → Mem → Prop} : WP d 199 8 [l0, l1, some (vi x), l3, l4, l5] (st) M Q = WP d 199 9 [l0, l1, some (vi x), l3, l4, l5] (vi x :: st) M Q := w1 mC_199 d199_8 rfl rfl
theorem d199_9 : decode cX12_lent 9 = .ok (.invokevirtual 228, 3) := by decide +kernel
theorem k199_9 {d : Nat} {l0 l1 l2 l3 l4 l5 : Option PV} {st : List PV} {M : Mem} {Q : Option PV → Mem → Prop} {a0 : Int32} {r : Nat} (hl : szL st ≤ 8) (hk : mK M r = 12) : WP (d + 1) 199 9 [l0, l1, l2, l3, l4, l5] (vi a0 :: vr r :: st) M Q = WP d 182 0 [some (vr r), some (vi a0)] [] M (fun v M' => WP (d + 1) 199 12 [l0, l1, l2, l3, l4, l5] (psh v st) M' Q) := w_callV mC_199 d199_9 (ci := 12) rfl rfl rfl (Nat.le_of_ble_eq_true rfl) (by decide) rfl hl hk
theorem d199_12 : decode cX12_lent 12 = .ok (.istore 5, 2) := by decide +kernel
theorem k199_12 {d : Nat} {l0 l1 l2 l3 l4 l5 : Option PV} {st : List PV} {M : Mem} {Q : Option PV → Mem → Prop} {x : Int32} : WP d 199 12 [l0, l1, l2, l3, l4, l5] (vi x :: st) M Q = WP d 199 14 [l0, l1, l2, l3, l4, some (vi x)] (st) M Q := w1 mC_199 d199_12 rfl rfl
theorem d199_14 : decode cX12_lent 14 = .ok (.aload_n 0, 1) := by decide +kernel
theorem k199_14 {d x : Nat} {l1 l2 l3 l4 l5 : Option PV} {st : List PV} {M : Mem} {Q : Option PV → Mem → Prop} : WP d 199 14 [some (vr x), l1, l2, l3, l4, l5] (st) M Q = WP d 199 15 [some (vr x), l1, l2, l3, l4, l5] (vr x :: st) M Q := w1 mC_199 d199_14 rfl rfl
theorem d199_15 : decode cX12_lent 15 = .ok (.getfield 9, 3) := by decide +kernel
theorem k199_15 {d : Nat} {l0 l1 l2 l3 l4 l5 : Option PV} {st : List PV} {M : Mem} {Q : Option PV → Mem → Prop} {r : Nat} (hk : mK M r = 12) : WP d 199 15 [l0, l1, l2, l3, l4, l5] (vr r :: st) M Q = WP d 199 18 [l0, l1, l2, l3, l4, l5] (vr (mR M r 2) :: st) M Q := w_getr mC_199 d199_15 fE_12_9 rfl (by rw [hk]; rfl)
theorem d199_18 : decode cX12_lent 18 = .ok (.bipush 32, 2) := by decide +kernel
theorem k199_18 {d : Nat} {l0 l1 l2 l3 l4 l5 : Option PV} {st : List PV} {M : Mem} {Q : Option PV → Mem → Prop} : WP d 199 18 [l0, l1, l2, l3, l4, l5] (st) M Q = WP d 199 20 [l0, l1, l2, l3, l4, l5] (vi 32 :: st) M Q := w_bipush mC_199 d199_18 (by decide)
theorem d199_20 : decode cX12_lent 20 = .ok (.iload_n 2, 1) := by decide +kernel
theorem k199_20 {d : Nat} {x : Int32} {l0 l1 l3 l4 l5 : Option PV} {st : List PV} {M : Mem} {Q : Option PV → Mem → Prop} : WP d 199 20 [l0, l1, some (vi x), l3, l4, l5] (st) M Q = WP d 199 21 [l0, l1, some (vi x), l3, l4, l5] (vi x :: st) M Q := w1 mC_199 d199_20 rfl rfl
theorem d199_21 : decode cX12_lent 21 = .ok (.iadd, 1) := by decide +kernel
theorem k199_21 {d : Nat} {l0 l1 l2 l3 l4 l5 : Option PV} {st : List PV} {M : Mem} {Q : Option PV → Mem → Prop} {x y : Int32} : WP d 199 21 [l0, l1, l2, l3, l4, l5] (vi y :: vi x :: st) M Q = WP d 199 22 [l0, l1, l2, l3, l4, l5] (vi (x + y) :: st) M Q := w1 mC_199 d199_21 rfl rfl
theorem d199_22 : decode cX12_lent 22 = .ok (.iload_n 1, 1) := by decide +kernel
theorem k199_22 {d : Nat} {x : Int32} {l0 l2 l3 l4 l5 : Option PV} {st : List PV} {M : Mem} {Q : Option PV → Mem → Prop} : WP d 199 22 [l0, some (vi x), l2, l3, l4, l5] (st) M Q = WP d 199 23 [l0, some (vi x), l2, l3, l4, l5] (vi x :: st) M Q := w1 mC_199 d199_22 rfl rfl
theorem d199_23 : decode cX12_lent 23 = .ok (.iastore, 1) := by decide +kernel
theorem k199_23 {d : Nat} {l0 l1 l2 l3 l4 l5 : Option PV} {st : List PV} {M : Mem} {Q : Option PV → Mem → Prop} {r : Nat} {j x : Int32} (hk : mK M r = 13) (hj : inb j (mN M r)) (h1 : r ≠ 1) : WP d 199 23 [l0, l1, l2, l3, l4, l5] (vi x :: vi j :: vr r :: st) M Q = WP d 199 24 [l0, l1, l2, l3, l4, l5] (st) (sI M r (ix j) x) Q := w_iast mC_199 d199_23 hk hj h1
theorem d199_24 : decode cX12_lent 24 = .ok (.aload_n 0, 1) := by decide +kernel
theorem k199_24 {d x : Nat} {l1 l2 l3 l4 l5 : Option PV} {st : List PV} {M : Mem} {Q : Option PV → Mem → Prop} : WP d 199 24 [some (vr x), l1, l2, l3, l4, l5] (st) M Q = WP d 199 25 [some (vr x), l1, l2, l3, l4, l5] (vr x :: st) M Q := w1 mC_199 d199_24 rfl rfl
theorem d199_25 : decode cX12_lent 25 = .ok (.getfield 9, 3) := by decide +kernel
theorem k199_25 {d : Nat} {l0 l1 l2 l3 l4 l5 : Option PV} {st : List PV} {M : Mem} {Q : Option PV → Mem → Prop} {r : Nat} (hk : mK M r = 12) : WP d 199 25 [l0, l1, l2, l3, l4, l5] (vr r :: st) M Q = WP d 199 28 [l0, l1, l2, l3, l4, l5] (vr (mR M r 2) :: st) M Q := w_getr mC_199 d199_25 fE_12_9 rfl (by rw [hk]; rfl)
theorem d199_28 : decode cX12_lent 28 = .ok (.bipush 40, 2) := by decide +kernel
theorem k199_28 {d : Nat} {l0 l1 l2 l3 l4 l5 : Option PV} {st : List PV} {M : Mem} {Q : Option PV → Mem → Prop} : WP d 199 28 [l0, l1, l2, l3, l4, l5] (st) M Q = WP d 199 30 [l0, l1, l2, l3, l4, l5] (vi 40 :: st) M Q := w_bipush mC_199 d199_28 (by decide)
theorem d199_30 : decode cX12_lent 30 = .ok (.iload_n 2, 1) := by decide +kernel
theorem k199_30 {d : Nat} {x : Int32} {l0 l1 l3 l4 l5 : Option PV} {st : List PV} {M : Mem} {Q : Option PV → Mem → Prop} : WP d 199 30 [l0, l1, some (vi x), l3, l4, l5] (st) M Q = WP d 199 31 [l0, l1, some (vi x), l3, l4, l5] (vi x :: st) M Q := w1 mC_199 d199_30 rfl rfl
theorem d199_31 : decode cX12_lent 31 = .ok (.iadd, 1) := by decide +kernel
theorem k199_31 {d : Nat} {l0 l1 l2 l3 l4 l5 : Option PV} {st : List PV} {M : Mem} {Q : Option PV → Mem → Prop} {x y : Int32} : WP d 199 31 [l0, l1, l2, l3, l4, l5] (vi y :: vi x :: st) M Q = WP d 199 32 [l0, l1, l2, l3, l4, l5] (vi (x + y) :: st) M Q := w1 mC_199 d199_31 rfl rfl
theorem d199_32 : decode cX12_lent 32 = .ok (.iload_n 3, 1) := by decide +kernel
theorem k199_32 {d : Nat} {x : Int32} {l0 l1 l2 l4 l5 : Option PV} {st : List PV} {M : Mem} {Q : Option PV → Mem → Prop} : WP d 199 32 [l0, l1, l2, some (vi x), l4, l5] (st) M Q = WP d 199 33 [l0, l1, l2, some (vi x), l4, l5] (vi x :: st) M Q := w1 mC_199 d199_32 rfl rfl
theorem d199_33 : decode cX12_lent 33 = .ok (.iastore, 1) := by decide +kernel
theorem k199_33 {d : Nat} {l0 l1 l2 l3 l4 l5 : Option PV} {st : List PV} {M : Mem} {Q : Option PV → Mem → Prop} {r : Nat} {j x : Int32} (hk : mK M r = 13) (hj : inb j (mN M r)) (h1 : r ≠ 1) : WP d 199 33 [l0, l1, l2, l3, l4, l5] (vi x :: vi j :: vr r :: st) M Q = WP d 199 34 [l0, l1, l2, l3, l4, l5] (st) (sI M r (ix j) x) Q := w_iast mC_199 d199_33 hk hj h1
theorem d199_34 : decode cX12_lent 34 = .ok (.aload_n 0, 1) := by decide +kernel
theorem k199_34 {d x : Nat} {l1 l2 l3 l4 l5 : Option PV} {st : List PV} {M : Mem} {Q : Option PV → Mem → Prop} : WP d 199 34 [some (vr x), l1, l2, l3, l4, l5] (st) M Q = WP d 199 35 [some (vr x), l1, l2, l3, l4, l5] (vr x :: st) M Q := w1 mC_199 d199_34 rfl rfl
theorem d199_35 : decode cX12_lent 35 = .ok (.iload_n 2, 1) := by decide +kernel
theorem k199_35 {d : Nat} {x : Int32} {l0 l1 l3 l4 l5 : Option PV} {st : List PV} {M : Mem} {Q : Option PV → Mem → Prop} : WP d 199 35 [l0, l1, some (vi x), l3, l4, l5] (st) M Q = WP d 199 36 [l0, l1, some (vi x), l3, l4, l5] (vi x :: st) M Q := w1 mC_199 d199_35 rfl rfl
theorem d199_36 : decode cX12_lent 36 = .ok (.invokevirtual 287, 3) := by decide +kernel
theorem k199_36 {d : Nat} {l0 l1 l2 l3 l4 l5 : Option PV} {st : List PV} {M : Mem} {Q : Option PV → Mem → Prop} {a0 : Int32} {r : Nat} (hl : szL st ≤ 8) (hk : mK M r = 12) : WP (d + 1) 199 36 [l0, l1, l2, l3, l4, l5] (vi a0 :: vr r :: st) M Q = WP d 198 0 [some (vr r), some (vi a0), none] [] M (fun v M' => WP (d + 1) 199 39 [l0, l1, l2, l3, l4, l5] (psh v st) M' Q) := w_callV mC_199 d199_36 (ci := 12) rfl rfl rfl (Nat.le_of_ble_eq_true rfl) (by decide) rfl hl hk
theorem d199_39 : decode cX12_lent 39 = .ok (.aload_n 0, 1) := by decide +kernel
theorem k199_39 {d x : Nat} {l1 l2 l3 l4 l5 : Option PV} {st : List PV} {M : Mem} {Q : Option PV → Mem → Prop} : WP d 199 39 [some (vr x), l1, l2, l3, l4, l5] (st) M Q = WP d 199 40 [some (vr x), l1, l2, l3, l4, l5] (vr x :: st) M Q := w1 mC_199 d199_39 rfl rfl
theorem d199_40 : decode cX12_lent 40 = .ok (.getfield 9, 3) := by decide +kernel
theorem k199_40 {d : Nat} {l0 l1 l2 l3 l4 l5 : Option PV} {st : List PV} {M : Mem} {Q : Option PV → Mem → Prop} {r : Nat} (hk : mK M r = 12) : WP d 199 40 [l0, l1, l2, l3, l4, l5] (vr r :: st) M Q = WP d 199 43 [l0, l1, l2, l3, l4, l5] (vr (mR M r 2) :: st) M Q := w_getr mC_199 d199_40 fE_12_9 rfl (by rw [hk]; rfl)
theorem d199_43 : decode cX12_lent 43 = .ok (.bipush 32, 2) := by decide +kernel
theorem k199_43 {d : Nat} {l0 l1 l2 l3 l4 l5 : Option PV} {st : List PV} {M : Mem} {Q : Option PV → Mem → Prop} : WP d 199 43 [l0, l1, l2, l3, l4, l5] (st) M Q = WP d 199 45 [l0, l1, l2, l3, l4, l5] (vi 32 :: st) M Q := w_bipush mC_199 d199_43 (by decide)
theorem d199_45 : decode cX12_lent 45 = .ok (.iload_n 2, 1) := by decide +kernel
theorem k199_45 {d : Nat} {x : Int32} {l0 l1 l3 l4 l5 : Option PV} {st : List PV} {M : Mem} {Q : Option PV → Mem → Prop} : WP d 199 45 [l0, l1, some (vi x), l3, l4, l5] (st) M Q = WP d 199 46 [l0, l1, some (vi x), l3, l4, l5] (vi x :: st) M Q := w1 mC_199 d199_45 rfl rfl
theorem d199_46 : decode cX12_lent 46 = .ok (.iadd, 1) := by decide +kernel
theorem k199_46 {d : Nat} {l0 l1 l2 l3 l4 l5 : Option PV} {st : List PV} {M : Mem} {Q : Option PV → Mem → Prop} {x y : Int32} : WP d 199 46 [l0, l1, l2, l3, l4, l5] (vi y :: vi x :: st) M Q = WP d 199 47 [l0, l1, l2, l3, l4, l5] (vi (x + y) :: st) M Q := w1 mC_199 d199_46 rfl rfl
theorem d199_47 : decode cX12_lent 47 = .ok (.iload 4, 2) := by decide +kernel
theorem k199_47 {d : Nat} {x : Int32} {l0 l1 l2 l3 l5 : Option PV} {st : List PV} {M : Mem} {Q : Option PV → Mem → Prop} : WP d 199 47 [l0, l1, l2, l3, some (vi x), l5] (st) M Q = WP d 199 49 [l0, l1, l2, l3, some (vi x), l5] (vi x :: st) M Q := w1 mC_199 d199_47 rfl rfl
theorem d199_49 : decode cX12_lent 49 = .ok (.iastore, 1) := by decide +kernel
theorem k199_49 {d : Nat} {l0 l1 l2 l3 l4 l5 : Option PV} {st : List PV} {M : Mem} {Q : Option PV → Mem → Prop} {r : Nat} {j x : Int32} (hk : mK M r = 13) (hj : inb j (mN M r)) (h1 : r ≠ 1) : WP d 199 49 [l0, l1, l2, l3, l4, l5] (vi x :: vi j :: vr r :: st) M Q = WP d 199 50 [l0, l1, l2, l3, l4, l5] (st) (sI M r (ix j) x) Q := w_iast mC_199 d199_49 hk hj h1
theorem d199_50 : decode cX12_lent 50 = .ok (.aload_n 0, 1) := by decide +kernel
theorem k199_50 {d x : Nat} {l1 l2 l3 l4 l5 : Option PV} {st : List PV} {M : Mem} {Q : Option PV → Mem → Prop} : WP d 199 50 [some (vr x), l1, l2, l3, l4, l5] (st) M Q = WP d 199 51 [some (vr x), l1, l2, l3, l4, l5] (vr x :: st) M Q := w1 mC_199 d199_50 rfl rfl
theorem d199_51 : decode cX12_lent 51 = .ok (.getfield 9, 3) := by decide +kernel
theorem k199_51 {d : Nat} {l0 l1 l2 l3 l4 l5 : Option PV} {st : List PV} {M : Mem} {Q : Option PV → Mem → Prop} {r : Nat} (hk : mK M r = 12) : WP d 199 51 [l0, l1, l2, l3, l4, l5] (vr r :: st) M Q = WP d 199 54 [l0, l1, l2, l3, l4, l5] (vr (mR M r 2) :: st) M Q := w_getr mC_199 d199_51 fE_12_9 rfl (by rw [hk]; rfl)
theorem d199_54 : decode cX12_lent 54 = .ok (.bipush 40, 2) := by decide +kernel
theorem k199_54 {d : Nat} {l0 l1 l2 l3 l4 l5 : Option PV} {st : List PV} {M : Mem} {Q : Option PV → Mem → Prop} : WP d 199 54 [l0, l1, l2, l3, l4, l5] (st) M Q = WP d 199 56 [l0, l1, l2, l3, l4, l5] (vi 40 :: st) M Q := w_bipush mC_199 d199_54 (by decide)
theorem d199_56 : decode cX12_lent 56 = .ok (.iload_n 2, 1) := by decide +kernel
theorem k199_56 {d : Nat} {x : Int32} {l0 l1 l3 l4 l5 : Option PV} {st : List PV} {M : Mem} {Q : Option PV → Mem → Prop} : WP d 199 56 [l0, l1, some (vi x), l3, l4, l5] (st) M Q = WP d 199 57 [l0, l1, some (vi x), l3, l4, l5] (vi x :: st) M Q := w1 mC_199 d199_56 rfl rfl
theorem d199_57 : decode cX12_lent 57 = .ok (.iadd, 1) := by decide +kernel
theorem k199_57 {d : Nat} {l0 l1 l2 l3 l4 l5 : Option PV} {st : List PV} {M : Mem} {Q : Option PV → Mem → Prop} {x y : Int32} : WP d 199 57 [l0, l1, l2, l3, l4, l5] (vi y :: vi x :: st) M Q = WP d 199 58 [l0, l1, l2, l3, l4, l5] (vi (x + y) :: st) M Q := w1 mC_199 d199_57 rfl rfl
theorem d199_58 : decode cX12_lent 58 = .ok (.iload 5, 2) := by decide +kernel
theorem k199_58 {d : Nat} {x : Int32} {l0 l1 l2 l3 l4 : Option PV} {st : List PV} {M : Mem} {Q : Option PV → Mem → Prop} : WP d 199 58 [l0, l1, l2, l3, l4, some (vi x)] (st) M Q = WP d 199 60 [l0, l1, l2, l3, l4, some (vi x)] (vi x :: st) M Q := w1 mC_199 d199_58 rfl rfl
theorem d199_60 : decode cX12_lent 60 = .ok (.iastore, 1) := by decide +kernel
theorem k199_60 {d : Nat} {l0 l1 l2 l3 l4 l5 : Option PV} {st : List PV} {M : Mem} {Q : Option PV → Mem → Prop} {r : Nat} {j x : Int32} (hk : mK M r = 13) (hj : inb j (mN M r)) (h1 : r ≠ 1) : WP d 199 60 [l0, l1, l2, l3, l4, l5] (vi x :: vi j :: vr r :: st) M Q = WP d 199 61 [l0, l1, l2, l3, l4, l5] (st) (sI M r (ix j) x) Q := w_iast mC_199 d199_60 hk hj h1
theorem d199_61 : decode cX12_lent 61 = .ok (.return_, 1) := by decide +kernel
theorem k199_61 {d : Nat} {l0 l1 l2 l3 l4 l5 : Option PV} {M : Mem} {Q : Option PV → Mem → Prop} : WP d 199 61 [l0, l1, l2, l3, l4, l5] ([]) M Q = Q none M := w_vret mC_199 d199_61 rfl
theorem d200_0 : decode cX12_isPair 0 = .ok (.iload_n 1, 1) := by decide +kernel
theorem k200_0 {d : Nat} {x : Int32} {l0 : Option PV} {st : List PV} {M : Mem} {Q : Option PV → Mem → Prop} : WP d 200 0 [l0, some (vi x)] (st) M Q = WP d 200 1 [l0, some (vi x)] (vi x :: st) M Q := w1 mC_200 d200_0 rfl rfl
theorem d200_1 : decode cX12_isPair 1 = .ok (.ifCond .lt 29, 3) := by decide +kernel
theorem k200_1 {d : Nat} {l0 l1 : Option PV} {st : List PV} {M : Mem} {Q : Option PV → Mem → Prop} {x : Int32} : WP d 200 1 [l0, l1] (vi x :: st) M Q = (if x < 0 then WP d 200 30 [l0, l1] (st) M Q else WP d 200 4 [l0, l1] (st) M Q) := w_if_lt mC_200 d200_1 (by decide)
theorem d200_4 : decode cX12_isPair 4 = .ok (.aload_n 0, 1) := by decide +kernel
theorem k200_4 {d x : Nat} {l1 : Option PV} {st : List PV} {M : Mem} {Q : Option PV → Mem → Prop} : WP d 200 4 [some (vr x), l1] (st) M Q = WP d 200 5 [some (vr x), l1] (vr x :: st) M Q := w1 mC_200 d200_4 rfl rfl
theorem d200_5 : decode cX12_isPair 5 = .ok (.iload_n 1, 1) := by decide +kernel
theorem k200_5 {d : Nat} {x : Int32} {l0 : Option PV} {st : List PV} {M : Mem} {Q : Option PV → Mem → Prop} : WP d 200 5 [l0, some (vi x)] (st) M Q = WP d 200 6 [l0, some (vi x)] (vi x :: st) M Q := w1 mC_200 d200_5 rfl rfl
theorem d200_6 : decode cX12_isPair 6 = .ok (.bipush 10, 2) := by decide +kernel
theorem k200_6 {d : Nat} {l0 l1 : Option PV} {st : List PV} {M : Mem} {Q : Option PV → Mem → Prop} : WP d 200 6 [l0, l1] (st) M Q = WP d 200 8 [l0, l1] (vi 10 :: st) M Q := w_bipush mC_200 d200_6 (by decide)
theorem d200_8 : decode cX12_isPair 8 = .ok (.idiv, 1) := by decide +kernel
theorem k200_8 {d : Nat} {l0 l1 : Option PV} {st : List PV} {M : Mem} {Q : Option PV → Mem → Prop} {x y : Int32} (h : y ≠ 0) : WP d 200 8 [l0, l1] (vi y :: vi x :: st) M Q = WP d 200 9 [l0, l1] (vi (x / y) :: st) M Q := w_div mC_200 d200_8 h
theorem d200_9 : decode cX12_isPair 9 = .ok (.invokevirtual 119, 3) := by decide +kernel
theorem k200_9 {d : Nat} {l0 l1 : Option PV} {st : List PV} {M : Mem} {Q : Option PV → Mem → Prop} {a0 : Int32} {r : Nat} (hl : szL st ≤ 8) (hk : mK M r = 12) : WP (d + 1) 200 9 [l0, l1] (vi a0 :: vr r :: st) M Q = WP d 146 0 [some (vr r), some (vi a0)] [] M (fun v M' => WP (d + 1) 200 12 [l0, l1] (psh v st) M' Q) := w_callV mC_200 d200_9 (ci := 12) rfl rfl rfl (Nat.le_of_ble_eq_true rfl) (by decide) rfl hl hk
theorem d200_12 : decode cX12_isPair 12 = .ok (.ifCond .eq 18, 3) := by decide +kernel
theorem k200_12 {d : Nat} {l0 l1 : Option PV} {st : List PV} {M : Mem} {Q : Option PV → Mem → Prop} {x : Int32} : WP d 200 12 [l0, l1] (vi x :: st) M Q = (if x = 0 then WP d 200 30 [l0, l1] (st) M Q else WP d 200 15 [l0, l1] (st) M Q) := w_if_eq mC_200 d200_12 (by decide)
theorem d200_15 : decode cX12_isPair 15 = .ok (.aload_n 0, 1) := by decide +kernel
theorem k200_15 {d x : Nat} {l1 : Option PV} {st : List PV} {M : Mem} {Q : Option PV → Mem → Prop} : WP d 200 15 [some (vr x), l1] (st) M Q = WP d 200 16 [some (vr x), l1] (vr x :: st) M Q := w1 mC_200 d200_15 rfl rfl
theorem d200_16 : decode cX12_isPair 16 = .ok (.iload_n 1, 1) := by decide +kernel
theorem k200_16 {d : Nat} {x : Int32} {l0 : Option PV} {st : List PV} {M : Mem} {Q : Option PV → Mem → Prop} : WP d 200 16 [l0, some (vi x)] (st) M Q = WP d 200 17 [l0, some (vi x)] (vi x :: st) M Q := w1 mC_200 d200_16 rfl rfl
theorem d200_17 : decode cX12_isPair 17 = .ok (.bipush 10, 2) := by decide +kernel
theorem k200_17 {d : Nat} {l0 l1 : Option PV} {st : List PV} {M : Mem} {Q : Option PV → Mem → Prop} : WP d 200 17 [l0, l1] (st) M Q = WP d 200 19 [l0, l1] (vi 10 :: st) M Q := w_bipush mC_200 d200_17 (by decide)
theorem d200_19 : decode cX12_isPair 19 = .ok (.irem, 1) := by decide +kernel
theorem k200_19 {d : Nat} {l0 l1 : Option PV} {st : List PV} {M : Mem} {Q : Option PV → Mem → Prop} {x y : Int32} (h : y ≠ 0) : WP d 200 19 [l0, l1] (vi y :: vi x :: st) M Q = WP d 200 20 [l0, l1] (vi (x % y) :: st) M Q := w_rem mC_200 d200_19 h
theorem d200_20 : decode cX12_isPair 20 = .ok (.invokevirtual 134, 3) := by decide +kernel
theorem k200_20 {d : Nat} {l0 l1 : Option PV} {st : List PV} {M : Mem} {Q : Option PV → Mem → Prop} {a0 : Int32} {r : Nat} (hl : szL st ≤ 8) (hk : mK M r = 12) : WP (d + 1) 200 20 [l0, l1] (vi a0 :: vr r :: st) M Q = WP d 147 0 [some (vr r), some (vi a0)] [] M (fun v M' => WP (d + 1) 200 23 [l0, l1] (psh v st) M' Q) := w_callV mC_200 d200_20 (ci := 12) rfl rfl rfl (Nat.le_of_ble_eq_true rfl) (by decide) rfl hl hk
theorem d200_23 : decode cX12_isPair 23 = .ok (.ifCond .eq 7, 3) := by decide +kernel
theorem k200_23 {d : Nat} {l0 l1 : Option PV} {st : List PV} {M : Mem} {Q : Option PV → Mem → Prop} {x : Int32} : WP d 200 23 [l0, l1] (vi x :: st) M Q = (if x = 0 then WP d 200 30 [l0, l1] (st) M Q else WP d 200 26 [l0, l1] (st) M Q) := w_if_eq mC_200 d200_23 (by decide)
theorem d200_26 : decode cX12_isPair 26 = .ok (.iconst 1, 1) := by decide +kernel
theorem k200_26 {d : Nat} {l0 l1 : Option PV} {st : List PV} {M : Mem} {Q : Option PV → Mem → Prop} : WP d 200 26 [l0, l1] (st) M Q = WP d 200 27 [l0, l1] (vi 1 :: st) M Q := w_iconst mC_200 d200_26 (by decide)
theorem d200_27 : decode cX12_isPair 27 = .ok (.goto 4, 3) := by decide +kernel
theorem k200_27 {d : Nat} {l0 l1 : Option PV} {st : List PV} {M : Mem} {Q : Option PV → Mem → Prop} : WP d 200 27 [l0, l1] (st) M Q = WP d 200 31 [l0, l1] (st) M Q := w_goto mC_200 d200_27 (by decide)
theorem d200_30 : decode cX12_isPair 30 = .ok (.iconst 0, 1) := by decide +kernel
theorem k200_30 {d : Nat} {l0 l1 : Option PV} {st : List PV} {M : Mem} {Q : Option PV → Mem → Prop} : WP d 200 30 [l0, l1] (st) M Q = WP d 200 31 [l0, l1] (vi 0 :: st) M Q := w_iconst mC_200 d200_30 (by decide)
theorem d200_31 : decode cX12_isPair 31 = .ok (.ireturn, 1) := by decide +kernel
theorem k200_31 {d : Nat} {l0 l1 : Option PV} {M : Mem} {Q : Option PV → Mem → Prop} {x : Int32} (hx : x = 0 ∨ x = 1) : WP d 200 31 [l0, l1] ([vi x]) M Q = Q (some (vi x)) M := w_zret mC_200 d200_31 rfl hx
theorem d201_0 : decode cX12_loan 0 = .ok (.aload_n 0, 1) := by decide +kernel
theorem k201_0 {d x : Nat} {l1 l2 l3 : Option PV} {st : List PV} {M : Mem} {Q : Option PV → Mem → Prop} : WP d 201 0 [some (vr x), l1, l2, l3] (st) M Q = WP d 201 1 [some (vr x), l1, l2, l3] (vr x :: st) M Q := w1 mC_201 d201_0 rfl rfl
theorem d201_1 : decode cX12_loan 1 = .ok (.iload_n 1, 1) := by decide +kernel
theorem k201_1 {d : Nat} {x : Int32} {l0 l2 l3 : Option PV} {st : List PV} {M : Mem} {Q : Option PV → Mem → Prop} : WP d 201 1 [l0, some (vi x), l2, l3] (st) M Q = WP d 201 2 [l0, some (vi x), l2, l3] (vi x :: st) M Q := w1 mC_201 d201_1 rfl rfl
theorem d201_2 : decode cX12_loan 2 = .ok (.invokevirtual 290, 3) := by decide +kernel
theorem k201_2 {d : Nat} {l0 l1 l2 l3 : Option PV} {st : List PV} {M : Mem} {Q : Option PV → Mem → Prop} {a0 : Int32} {r : Nat} (hl : szL st ≤ 8) (hk : mK M r = 12) : WP (d + 1) 201 2 [l0, l1, l2, l3] (vi a0 :: vr r :: st) M Q = WP d 200 0 [some (vr r), some (vi a0)] [] M (fun v M' => WP (d + 1) 201 5 [l0, l1, l2, l3] (psh v st) M' Q) := w_callV mC_201 d201_2 (ci := 12) rfl rfl rfl (Nat.le_of_ble_eq_true rfl) (by decide) rfl hl hk
theorem d201_5 : decode cX12_loan 5 = .ok (.ifCond .eq 22, 3) := by decide +kernel
theorem k201_5 {d : Nat} {l0 l1 l2 l3 : Option PV} {st : List PV} {M : Mem} {Q : Option PV → Mem → Prop} {x : Int32} : WP d 201 5 [l0, l1, l2, l3] (vi x :: st) M Q = (if x = 0 then WP d 201 27 [l0, l1, l2, l3] (st) M Q else WP d 201 8 [l0, l1, l2, l3] (st) M Q) := w_if_eq mC_201 d201_5 (by decide)
theorem d201_8 : decode cX12_loan 8 = .ok (.iload_n 2, 1) := by decide +kernel
theorem k201_8 {d : Nat} {x : Int32} {l0 l1 l3 : Option PV} {st : List PV} {M : Mem} {Q : Option PV → Mem → Prop} : WP d 201 8 [l0, l1, some (vi x), l3] (st) M Q = WP d 201 9 [l0, l1, some (vi x), l3] (vi x :: st) M Q := w1 mC_201 d201_8 rfl rfl
theorem d201_9 : decode cX12_loan 9 = .ok (.iconst 1, 1) := by decide +kernel
theorem k201_9 {d : Nat} {l0 l1 l2 l3 : Option PV} {st : List PV} {M : Mem} {Q : Option PV → Mem → Prop} : WP d 201 9 [l0, l1, l2, l3] (st) M Q = WP d 201 10 [l0, l1, l2, l3] (vi 1 :: st) M Q := w_iconst mC_201 d201_9 (by decide)
theorem d201_10 : decode cX12_loan 10 = .ok (.bipush 99, 2) := by decide +kernel
theorem k201_10 {d : Nat} {l0 l1 l2 l3 : Option PV} {st : List PV} {M : Mem} {Q : Option PV → Mem → Prop} : WP d 201 10 [l0, l1, l2, l3] (st) M Q = WP d 201 12 [l0, l1, l2, l3] (vi 99 :: st) M Q := w_bipush mC_201 d201_10 (by decide)
theorem d201_12 : decode cX12_loan 12 = .ok (.invokestatic 104, 3) := by decide +kernel
theorem k201_12 {d : Nat} {l0 l1 l2 l3 : Option PV} {st : List PV} {M : Mem} {Q : Option PV → Mem → Prop} {a0 a1 a2 : Int32} (hl : szL st ≤ 8) : WP (d + 1) 201 12 [l0, l1, l2, l3] (vi a2 :: vi a1 :: vi a0 :: st) M Q = WP d 145 0 [some (vi a0), some (vi a1), some (vi a2)] [] M (fun v M' => WP (d + 1) 201 15 [l0, l1, l2, l3] (psh v st) M' Q) := w_callS mC_201 d201_12 rfl rfl (Nat.le_of_ble_eq_true rfl) (by decide) rfl hl
theorem d201_15 : decode cX12_loan 15 = .ok (.ifCond .eq 12, 3) := by decide +kernel
theorem k201_15 {d : Nat} {l0 l1 l2 l3 : Option PV} {st : List PV} {M : Mem} {Q : Option PV → Mem → Prop} {x : Int32} : WP d 201 15 [l0, l1, l2, l3] (vi x :: st) M Q = (if x = 0 then WP d 201 27 [l0, l1, l2, l3] (st) M Q else WP d 201 18 [l0, l1, l2, l3] (st) M Q) := w_if_eq mC_201 d201_15 (by decide)
theorem d201_18 : decode cX12_loan 18 = .ok (.iload_n 3, 1) := by decide +kernel
theorem k201_18 {d : Nat} {x : Int32} {l0 l1 l2 : Option PV} {st : List PV} {M : Mem} {Q : Option PV → Mem → Prop} : WP d 201 18 [l0, l1, l2, some (vi x)] (st) M Q = WP d 201 19 [l0, l1, l2, some (vi x)] (vi x :: st) M Q := w1 mC_201 d201_18 rfl rfl
theorem d201_19 : decode cX12_loan 19 = .ok (.iconst 0, 1) := by decide +kernel
theorem k201_19 {d : Nat} {l0 l1 l2 l3 : Option PV} {st : List PV} {M : Mem} {Q : Option PV → Mem → Prop} : WP d 201 19 [l0, l1, l2, l3] (st) M Q = WP d 201 20 [l0, l1, l2, l3] (vi 0 :: st) M Q := w_iconst mC_201 d201_19 (by decide)
theorem d201_20 : decode cX12_loan 20 = .ok (.iconst 1, 1) := by decide +kernel
theorem k201_20 {d : Nat} {l0 l1 l2 l3 : Option PV} {st : List PV} {M : Mem} {Q : Option PV → Mem → Prop} : WP d 201 20 [l0, l1, l2, l3] (st) M Q = WP d 201 21 [l0, l1, l2, l3] (vi 1 :: st) M Q := w_iconst mC_201 d201_20 (by decide)
theorem d201_21 : decode cX12_loan 21 = .ok (.invokestatic 104, 3) := by decide +kernel
theorem k201_21 {d : Nat} {l0 l1 l2 l3 : Option PV} {st : List PV} {M : Mem} {Q : Option PV → Mem → Prop} {a0 a1 a2 : Int32} (hl : szL st ≤ 8) : WP (d + 1) 201 21 [l0, l1, l2, l3] (vi a2 :: vi a1 :: vi a0 :: st) M Q = WP d 145 0 [some (vi a0), some (vi a1), some (vi a2)] [] M (fun v M' => WP (d + 1) 201 24 [l0, l1, l2, l3] (psh v st) M' Q) := w_callS mC_201 d201_21 rfl rfl (Nat.le_of_ble_eq_true rfl) (by decide) rfl hl
theorem d201_24 : decode cX12_loan 24 = .ok (.ifCond .ne 5, 3) := by decide +kernel
theorem k201_24 {d : Nat} {l0 l1 l2 l3 : Option PV} {st : List PV} {M : Mem} {Q : Option PV → Mem → Prop} {x : Int32} : WP d 201 24 [l0, l1, l2, l3] (vi x :: st) M Q = (if x = 0 then WP d 201 27 [l0, l1, l2, l3] (st) M Q else WP d 201 29 [l0, l1, l2, l3] (st) M Q) := w_if_ne mC_201 d201_24 (by decide)
theorem d201_27 : decode cX12_loan 27 = .ok (.iconst (-1), 1) := by decide +kernel
theorem k201_27 {d : Nat} {l0 l1 l2 l3 : Option PV} {st : List PV} {M : Mem} {Q : Option PV → Mem → Prop} : WP d 201 27 [l0, l1, l2, l3] (st) M Q = WP d 201 28 [l0, l1, l2, l3] (vi (-1) :: st) M Q := w_iconst mC_201 d201_27 (by decide)
theorem d201_28 : decode cX12_loan 28 = .ok (.ireturn, 1) := by decide +kernel
theorem k201_28 {d : Nat} {l0 l1 l2 l3 : Option PV} {M : Mem} {Q : Option PV → Mem → Prop} {x : Int32} : WP d 201 28 [l0, l1, l2, l3] ([vi x]) M Q = Q (some (vi x)) M := w_iret mC_201 d201_28 rfl
theorem d201_29 : decode cX12_loan 29 = .ok (.aload_n 0, 1) := by decide +kernel
theorem k201_29 {d x : Nat} {l1 l2 l3 : Option PV} {st : List PV} {M : Mem} {Q : Option PV → Mem → Prop} : WP d 201 29 [some (vr x), l1, l2, l3] (st) M Q = WP d 201 30 [some (vr x), l1, l2, l3] (vr x :: st) M Q := w1 mC_201 d201_29 rfl rfl
theorem d201_30 : decode cX12_loan 30 = .ok (.iload_n 1, 1) := by decide +kernel
theorem k201_30 {d : Nat} {x : Int32} {l0 l2 l3 : Option PV} {st : List PV} {M : Mem} {Q : Option PV → Mem → Prop} : WP d 201 30 [l0, some (vi x), l2, l3] (st) M Q = WP d 201 31 [l0, some (vi x), l2, l3] (vi x :: st) M Q := w1 mC_201 d201_30 rfl rfl
theorem d201_31 : decode cX12_loan 31 = .ok (.bipush 10, 2) := by decide +kernel
theorem k201_31 {d : Nat} {l0 l1 l2 l3 : Option PV} {st : List PV} {M : Mem} {Q : Option PV → Mem → Prop} : WP d 201 31 [l0, l1, l2, l3] (st) M Q = WP d 201 33 [l0, l1, l2, l3] (vi 10 :: st) M Q := w_bipush mC_201 d201_31 (by decide)
theorem d201_33 : decode cX12_loan 33 = .ok (.idiv, 1) := by decide +kernel
theorem k201_33 {d : Nat} {l0 l1 l2 l3 : Option PV} {st : List PV} {M : Mem} {Q : Option PV → Mem → Prop} {x y : Int32} (h : y ≠ 0) : WP d 201 33 [l0, l1, l2, l3] (vi y :: vi x :: st) M Q = WP d 201 34 [l0, l1, l2, l3] (vi (x / y) :: st) M Q := w_div mC_201 d201_33 h
theorem d201_34 : decode cX12_loan 34 = .ok (.iload_n 1, 1) := by decide +kernel
theorem k201_34 {d : Nat} {x : Int32} {l0 l2 l3 : Option PV} {st : List PV} {M : Mem} {Q : Option PV → Mem → Prop} : WP d 201 34 [l0, some (vi x), l2, l3] (st) M Q = WP d 201 35 [l0, some (vi x), l2, l3] (vi x :: st) M Q := w1 mC_201 d201_34 rfl rfl
theorem d201_35 : decode cX12_loan 35 = .ok (.bipush 10, 2) := by decide +kernel
theorem k201_35 {d : Nat} {l0 l1 l2 l3 : Option PV} {st : List PV} {M : Mem} {Q : Option PV → Mem → Prop} : WP d 201 35 [l0, l1, l2, l3] (st) M Q = WP d 201 37 [l0, l1, l2, l3] (vi 10 :: st) M Q := w_bipush mC_201 d201_35 (by decide)
theorem d201_37 : decode cX12_loan 37 = .ok (.irem, 1) := by decide +kernel
theorem k201_37 {d : Nat} {l0 l1 l2 l3 : Option PV} {st : List PV} {M : Mem} {Q : Option PV → Mem → Prop} {x y : Int32} (h : y ≠ 0) : WP d 201 37 [l0, l1, l2, l3] (vi y :: vi x :: st) M Q = WP d 201 38 [l0, l1, l2, l3] (vi (x % y) :: st) M Q := w_rem mC_201 d201_37 h
theorem d201_38 : decode cX12_loan 38 = .ok (.iload_n 2, 1) := by decide +kernel
theorem k201_38 {d : Nat} {x : Int32} {l0 l1 l3 : Option PV} {st : List PV} {M : Mem} {Q : Option PV → Mem → Prop} : WP d 201 38 [l0, l1, some (vi x), l3] (st) M Q = WP d 201 39 [l0, l1, some (vi x), l3] (vi x :: st) M Q := w1 mC_201 d201_38 rfl rfl
theorem d201_39 : decode cX12_loan 39 = .ok (.invokevirtual 293, 3) := by decide +kernel
theorem k201_39 {d : Nat} {l0 l1 l2 l3 : Option PV} {st : List PV} {M : Mem} {Q : Option PV → Mem → Prop} {a0 a1 a2 : Int32} {r : Nat} (hl : szL st ≤ 8) (hk : mK M r = 12) : WP (d + 1) 201 39 [l0, l1, l2, l3] (vi a2 :: vi a1 :: vi a0 :: vr r :: st) M Q = WP d 199 0 [some (vr r), some (vi a0), some (vi a1), some (vi a2), none, none] [] M (fun v M' => WP (d + 1) 201 42 [l0, l1, l2, l3] (psh v st) M' Q) := w_callV mC_201 d201_39 (ci := 12) rfl rfl rfl (Nat.le_of_ble_eq_true rfl) (by decide) rfl hl hk
theorem d201_42 : decode cX12_loan 42 = .ok (.aload_n 0, 1) := by decide +kernel
theorem k201_42 {d x : Nat} {l1 l2 l3 : Option PV} {st : List PV} {M : Mem} {Q : Option PV → Mem → Prop} : WP d 201 42 [some (vr x), l1, l2, l3] (st) M Q = WP d 201 43 [some (vr x), l1, l2, l3] (vr x :: st) M Q := w1 mC_201 d201_42 rfl rfl
theorem d201_43 : decode cX12_loan 43 = .ok (.getfield 85, 3) := by decide +kernel
theorem k201_43 {d : Nat} {l0 l1 l2 l3 : Option PV} {st : List PV} {M : Mem} {Q : Option PV → Mem → Prop} {r : Nat} (hk : mK M r = 12) : WP d 201 43 [l0, l1, l2, l3] (vr r :: st) M Q = WP d 201 46 [l0, l1, l2, l3] (vr (mR M r 42) :: st) M Q := w_getr mC_201 d201_43 fE_12_85 rfl (by rw [hk]; rfl)
theorem d201_46 : decode cX12_loan 46 = .ok (.iload_n 3, 1) := by decide +kernel
theorem k201_46 {d : Nat} {x : Int32} {l0 l1 l2 : Option PV} {st : List PV} {M : Mem} {Q : Option PV → Mem → Prop} : WP d 201 46 [l0, l1, l2, some (vi x)] (st) M Q = WP d 201 47 [l0, l1, l2, some (vi x)] (vi x :: st) M Q := w1 mC_201 d201_46 rfl rfl
theorem d201_47 : decode cX12_loan 47 = .ok (.iaload, 1) := by decide +kernel
theorem k201_47 {d : Nat} {l0 l1 l2 l3 : Option PV} {st : List PV} {M : Mem} {Q : Option PV → Mem → Prop} {r : Nat} {j : Int32} (hk : mK M r = 13) (hj : inb j (mN M r)) (h1 : r ≠ 1) : WP d 201 47 [l0, l1, l2, l3] (vi j :: vr r :: st) M Q = WP d 201 48 [l0, l1, l2, l3] (vi (mI M r (ix j)) :: st) M Q := w_iald mC_201 d201_47 (by decide) hk hj h1
theorem d201_48 : decode cX12_loan 48 = .ok (.ireturn, 1) := by decide +kernel
theorem k201_48 {d : Nat} {l0 l1 l2 l3 : Option PV} {M : Mem} {Q : Option PV → Mem → Prop} {x : Int32} : WP d 201 48 [l0, l1, l2, l3] ([vi x]) M Q = Q (some (vi x)) M := w_iret mC_201 d201_48 rfl
theorem d202_0 : decode cX12_best 0 = .ok (.aload_n 0, 1) := by decide +kernel
theorem k202_0 {d x : Nat} {l1 l2 l3 l4 l5 l6 : Option PV} {st : List PV} {M : Mem} {Q : Option PV → Mem → Prop} : WP d 202 0 [some (vr x), l1, l2, l3, l4, l5, l6] (st) M Q = WP d 202 1 [some (vr x), l1, l2, l3, l4, l5, l6] (vr x :: st) M Q := w1 mC_202 d202_0 rfl rfl
theorem d202_1 : decode cX12_best 1 = .ok (.iload_n 1, 1) := by decide +kernel
theorem k202_1 {d : Nat} {x : Int32} {l0 l2 l3 l4 l5 l6 : Option PV} {st : List PV} {M : Mem} {Q : Option PV → Mem → Prop} : WP d 202 1 [l0, some (vi x), l2, l3, l4, l5, l6] (st) M Q = WP d 202 2 [l0, some (vi x), l2, l3, l4, l5, l6] (vi x :: st) M Q := w1 mC_202 d202_1 rfl rfl
theorem d202_2 : decode cX12_best 2 = .ok (.invokevirtual 119, 3) := by decide +kernel
theorem k202_2 {d : Nat} {l0 l1 l2 l3 l4 l5 l6 : Option PV} {st : List PV} {M : Mem} {Q : Option PV → Mem → Prop} {a0 : Int32} {r : Nat} (hl : szL st ≤ 8) (hk : mK M r = 12) : WP (d + 1) 202 2 [l0, l1, l2, l3, l4, l5, l6] (vi a0 :: vr r :: st) M Q = WP d 146 0 [some (vr r), some (vi a0)] [] M (fun v M' => WP (d + 1) 202 5 [l0, l1, l2, l3, l4, l5, l6] (psh v st) M' Q) := w_callV mC_202 d202_2 (ci := 12) rfl rfl rfl (Nat.le_of_ble_eq_true rfl) (by decide) rfl hl hk
theorem d202_5 : decode cX12_best 5 = .ok (.ifCond .eq 22, 3) := by decide +kernel
theorem k202_5 {d : Nat} {l0 l1 l2 l3 l4 l5 l6 : Option PV} {st : List PV} {M : Mem} {Q : Option PV → Mem → Prop} {x : Int32} : WP d 202 5 [l0, l1, l2, l3, l4, l5, l6] (vi x :: st) M Q = (if x = 0 then WP d 202 27 [l0, l1, l2, l3, l4, l5, l6] (st) M Q else WP d 202 8 [l0, l1, l2, l3, l4, l5, l6] (st) M Q) := w_if_eq mC_202 d202_5 (by decide)
theorem d202_8 : decode cX12_best 8 = .ok (.iload_n 2, 1) := by decide +kernel
theorem k202_8 {d : Nat} {x : Int32} {l0 l1 l3 l4 l5 l6 : Option PV} {st : List PV} {M : Mem} {Q : Option PV → Mem → Prop} : WP d 202 8 [l0, l1, some (vi x), l3, l4, l5, l6] (st) M Q = WP d 202 9 [l0, l1, some (vi x), l3, l4, l5, l6] (vi x :: st) M Q := w1 mC_202 d202_8 rfl rfl
theorem d202_9 : decode cX12_best 9 = .ok (.iconst 1, 1) := by decide +kernel
theorem k202_9 {d : Nat} {l0 l1 l2 l3 l4 l5 l6 : Option PV} {st : List PV} {M : Mem} {Q : Option PV → Mem → Prop} : WP d 202 9 [l0, l1, l2, l3, l4, l5, l6] (st) M Q = WP d 202 10 [l0, l1, l2, l3, l4, l5, l6] (vi 1 :: st) M Q := w_iconst mC_202 d202_9 (by decide)
theorem d202_10 : decode cX12_best 10 = .ok (.bipush 99, 2) := by decide +kernel
theorem k202_10 {d : Nat} {l0 l1 l2 l3 l4 l5 l6 : Option PV} {st : List PV} {M : Mem} {Q : Option PV → Mem → Prop} : WP d 202 10 [l0, l1, l2, l3, l4, l5, l6] (st) M Q = WP d 202 12 [l0, l1, l2, l3, l4, l5, l6] (vi 99 :: st) M Q := w_bipush mC_202 d202_10 (by decide)
theorem d202_12 : decode cX12_best 12 = .ok (.invokestatic 104, 3) := by decide +kernel
theorem k202_12 {d : Nat} {l0 l1 l2 l3 l4 l5 l6 : Option PV} {st : List PV} {M : Mem} {Q : Option PV → Mem → Prop} {a0 a1 a2 : Int32} (hl : szL st ≤ 8) : WP (d + 1) 202 12 [l0, l1, l2, l3, l4, l5, l6] (vi a2 :: vi a1 :: vi a0 :: st) M Q = WP d 145 0 [some (vi a0), some (vi a1), some (vi a2)] [] M (fun v M' => WP (d + 1) 202 15 [l0, l1, l2, l3, l4, l5, l6] (psh v st) M' Q) := w_callS mC_202 d202_12 rfl rfl (Nat.le_of_ble_eq_true rfl) (by decide) rfl hl
theorem d202_15 : decode cX12_best 15 = .ok (.ifCond .eq 12, 3) := by decide +kernel
theorem k202_15 {d : Nat} {l0 l1 l2 l3 l4 l5 l6 : Option PV} {st : List PV} {M : Mem} {Q : Option PV → Mem → Prop} {x : Int32} : WP d 202 15 [l0, l1, l2, l3, l4, l5, l6] (vi x :: st) M Q = (if x = 0 then WP d 202 27 [l0, l1, l2, l3, l4, l5, l6] (st) M Q else WP d 202 18 [l0, l1, l2, l3, l4, l5, l6] (st) M Q) := w_if_eq mC_202 d202_15 (by decide)
theorem d202_18 : decode cX12_best 18 = .ok (.iload_n 3, 1) := by decide +kernel
theorem k202_18 {d : Nat} {x : Int32} {l0 l1 l2 l4 l5 l6 : Option PV} {st : List PV} {M : Mem} {Q : Option PV → Mem → Prop} : WP d 202 18 [l0, l1, l2, some (vi x), l4, l5, l6] (st) M Q = WP d 202 19 [l0, l1, l2, some (vi x), l4, l5, l6] (vi x :: st) M Q := w1 mC_202 d202_18 rfl rfl
theorem d202_19 : decode cX12_best 19 = .ok (.iconst 0, 1) := by decide +kernel
theorem k202_19 {d : Nat} {l0 l1 l2 l3 l4 l5 l6 : Option PV} {st : List PV} {M : Mem} {Q : Option PV → Mem → Prop} : WP d 202 19 [l0, l1, l2, l3, l4, l5, l6] (st) M Q = WP d 202 20 [l0, l1, l2, l3, l4, l5, l6] (vi 0 :: st) M Q := w_iconst mC_202 d202_19 (by decide)
theorem d202_20 : decode cX12_best 20 = .ok (.iconst 1, 1) := by decide +kernel
theorem k202_20 {d : Nat} {l0 l1 l2 l3 l4 l5 l6 : Option PV} {st : List PV} {M : Mem} {Q : Option PV → Mem → Prop} : WP d 202 20 [l0, l1, l2, l3, l4, l5, l6] (st) M Q = WP d 202 21 [l0, l1, l2, l3, l4, l5, l6] (vi 1 :: st) M Q := w_iconst mC_202 d202_20 (by decide)
theorem d202_21 : decode cX12_best 21 = .ok (.invokestatic 104, 3) := by decide +kernel
theorem k202_21 {d : Nat} {l0 l1 l2 l3 l4 l5 l6 : Option PV} {st : List PV} {M : Mem} {Q : Option PV → Mem → Prop} {a0 a1 a2 : Int32} (hl : szL st ≤ 8) : WP (d + 1) 202 21 [l0, l1, l2, l3, l4, l5, l6] (vi a2 :: vi a1 :: vi a0 :: st) M Q = WP d 145 0 [some (vi a0), some (vi a1), some (vi a2)] [] M (fun v M' => WP (d + 1) 202 24 [l0, l1, l2, l3, l4, l5, l6] (psh v st) M' Q) := w_callS mC_202 d202_21 rfl rfl (Nat.le_of_ble_eq_true rfl) (by decide) rfl hl
theorem d202_24 : decode cX12_best 24 = .ok (.ifCond .ne 5, 3) := by decide +kernel
theorem k202_24 {d : Nat} {l0 l1 l2 l3 l4 l5 l6 : Option PV} {st : List PV} {M : Mem} {Q : Option PV → Mem → Prop} {x : Int32} : WP d 202 24 [l0, l1, l2, l3, l4, l5, l6] (vi x :: st) M Q = (if x = 0 then WP d 202 27 [l0, l1, l2, l3, l4, l5, l6] (st) M Q else WP d 202 29 [l0, l1, l2, l3, l4, l5, l6] (st) M Q) := w_if_ne mC_202 d202_24 (by decide)
theorem d202_27 : decode cX12_best 27 = .ok (.iconst (-1), 1) := by decide +kernel
theorem k202_27 {d : Nat} {l0 l1 l2 l3 l4 l5 l6 : Option PV} {st : List PV} {M : Mem} {Q : Option PV → Mem → Prop} : WP d 202 27 [l0, l1, l2, l3, l4, l5, l6] (st) M Q = WP d 202 28 [l0, l1, l2, l3, l4, l5, l6] (vi (-1) :: st) M Q := w_iconst mC_202 d202_27 (by decide)
theorem d202_28 : decode cX12_best 28 = .ok (.ireturn, 1) := by decide +kernel
theorem k202_28 {d : Nat} {l0 l1 l2 l3 l4 l5 l6 : Option PV} {M : Mem} {Q : Option PV → Mem → Prop} {x : Int32} : WP d 202 28 [l0, l1, l2, l3, l4, l5, l6] ([vi x]) M Q = Q (some (vi x)) M := w_iret mC_202 d202_28 rfl
theorem d202_29 : decode cX12_best 29 = .ok (.bipush (-2), 2) := by decide +kernel
theorem k202_29 {d : Nat} {l0 l1 l2 l3 l4 l5 l6 : Option PV} {st : List PV} {M : Mem} {Q : Option PV → Mem → Prop} : WP d 202 29 [l0, l1, l2, l3, l4, l5, l6] (st) M Q = WP d 202 31 [l0, l1, l2, l3, l4, l5, l6] (vi (-2) :: st) M Q := w_bipush mC_202 d202_29 (by decide)
theorem d202_31 : decode cX12_best 31 = .ok (.istore 4, 2) := by decide +kernel
theorem k202_31 {d : Nat} {l0 l1 l2 l3 l4 l5 l6 : Option PV} {st : List PV} {M : Mem} {Q : Option PV → Mem → Prop} {x : Int32} : WP d 202 31 [l0, l1, l2, l3, l4, l5, l6] (vi x :: st) M Q = WP d 202 33 [l0, l1, l2, l3, some (vi x), l5, l6] (st) M Q := w1 mC_202 d202_31 rfl rfl
theorem d202_33 : decode cX12_best 33 = .ok (.bipush (-2), 2) := by decide +kernel
theorem k202_33 {d : Nat} {l0 l1 l2 l3 l4 l5 l6 : Option PV} {st : List PV} {M : Mem} {Q : Option PV → Mem → Prop} : WP d 202 33 [l0, l1, l2, l3, l4, l5, l6] (st) M Q = WP d 202 35 [l0, l1, l2, l3, l4, l5, l6] (vi (-2) :: st) M Q := w_bipush mC_202 d202_33 (by decide)
theorem d202_35 : decode cX12_best 35 = .ok (.istore 5, 2) := by decide +kernel
theorem k202_35 {d : Nat} {l0 l1 l2 l3 l4 l5 l6 : Option PV} {st : List PV} {M : Mem} {Q : Option PV → Mem → Prop} {x : Int32} : WP d 202 35 [l0, l1, l2, l3, l4, l5, l6] (vi x :: st) M Q = WP d 202 37 [l0, l1, l2, l3, l4, some (vi x), l6] (st) M Q := w1 mC_202 d202_35 rfl rfl
theorem d202_37 : decode cX12_best 37 = .ok (.iconst 0, 1) := by decide +kernel
theorem k202_37 {d : Nat} {l0 l1 l2 l3 l4 l5 l6 : Option PV} {st : List PV} {M : Mem} {Q : Option PV → Mem → Prop} : WP d 202 37 [l0, l1, l2, l3, l4, l5, l6] (st) M Q = WP d 202 38 [l0, l1, l2, l3, l4, l5, l6] (vi 0 :: st) M Q := w_iconst mC_202 d202_37 (by decide)
theorem d202_38 : decode cX12_best 38 = .ok (.istore 6, 2) := by decide +kernel
theorem k202_38 {d : Nat} {l0 l1 l2 l3 l4 l5 l6 : Option PV} {st : List PV} {M : Mem} {Q : Option PV → Mem → Prop} {x : Int32} : WP d 202 38 [l0, l1, l2, l3, l4, l5, l6] (vi x :: st) M Q = WP d 202 40 [l0, l1, l2, l3, l4, l5, some (vi x)] (st) M Q := w1 mC_202 d202_38 rfl rfl
theorem d202_40 : decode cX12_best 40 = .ok (.iload 6, 2) := by decide +kernel
theorem k202_40 {d : Nat} {x : Int32} {l0 l1 l2 l3 l4 l5 : Option PV} {st : List PV} {M : Mem} {Q : Option PV → Mem → Prop} : WP d 202 40 [l0, l1, l2, l3, l4, l5, some (vi x)] (st) M Q = WP d 202 42 [l0, l1, l2, l3, l4, l5, some (vi x)] (vi x :: st) M Q := w1 mC_202 d202_40 rfl rfl
theorem d202_42 : decode cX12_best 42 = .ok (.aload_n 0, 1) := by decide +kernel
theorem k202_42 {d x : Nat} {l1 l2 l3 l4 l5 l6 : Option PV} {st : List PV} {M : Mem} {Q : Option PV → Mem → Prop} : WP d 202 42 [some (vr x), l1, l2, l3, l4, l5, l6] (st) M Q = WP d 202 43 [some (vr x), l1, l2, l3, l4, l5, l6] (vr x :: st) M Q := w1 mC_202 d202_42 rfl rfl
theorem d202_43 : decode cX12_best 43 = .ok (.getfield 108, 3) := by decide +kernel
theorem k202_43 {d : Nat} {l0 l1 l2 l3 l4 l5 l6 : Option PV} {st : List PV} {M : Mem} {Q : Option PV → Mem → Prop} {r : Nat} (hk : mK M r = 12) : WP d 202 43 [l0, l1, l2, l3, l4, l5, l6] (vr r :: st) M Q = WP d 202 46 [l0, l1, l2, l3, l4, l5, l6] (vi (mI M r 1) :: st) M Q := w_get mC_202 d202_43 fE_12_108 rfl (by rw [hk]; rfl)
theorem d202_46 : decode cX12_best 46 = .ok (.if_icmp .ge 43, 3) := by decide +kernel
theorem k202_46 {d : Nat} {l0 l1 l2 l3 l4 l5 l6 : Option PV} {st : List PV} {M : Mem} {Q : Option PV → Mem → Prop} {x y : Int32} : WP d 202 46 [l0, l1, l2, l3, l4, l5, l6] (vi y :: vi x :: st) M Q = (if y ≤ x then WP d 202 89 [l0, l1, l2, l3, l4, l5, l6] (st) M Q else WP d 202 49 [l0, l1, l2, l3, l4, l5, l6] (st) M Q) := w_ic_ge mC_202 d202_46 (by decide)
theorem d202_49 : decode cX12_best 49 = .ok (.aload_n 0, 1) := by decide +kernel
theorem k202_49 {d x : Nat} {l1 l2 l3 l4 l5 l6 : Option PV} {st : List PV} {M : Mem} {Q : Option PV → Mem → Prop} : WP d 202 49 [some (vr x), l1, l2, l3, l4, l5, l6] (st) M Q = WP d 202 50 [some (vr x), l1, l2, l3, l4, l5, l6] (vr x :: st) M Q := w1 mC_202 d202_49 rfl rfl
theorem d202_50 : decode cX12_best 50 = .ok (.iload_n 1, 1) := by decide +kernel
theorem k202_50 {d : Nat} {x : Int32} {l0 l2 l3 l4 l5 l6 : Option PV} {st : List PV} {M : Mem} {Q : Option PV → Mem → Prop} : WP d 202 50 [l0, some (vi x), l2, l3, l4, l5, l6] (st) M Q = WP d 202 51 [l0, some (vi x), l2, l3, l4, l5, l6] (vi x :: st) M Q := w1 mC_202 d202_50 rfl rfl
theorem d202_51 : decode cX12_best 51 = .ok (.iload 6, 2) := by decide +kernel
theorem k202_51 {d : Nat} {x : Int32} {l0 l1 l2 l3 l4 l5 : Option PV} {st : List PV} {M : Mem} {Q : Option PV → Mem → Prop} : WP d 202 51 [l0, l1, l2, l3, l4, l5, some (vi x)] (st) M Q = WP d 202 53 [l0, l1, l2, l3, l4, l5, some (vi x)] (vi x :: st) M Q := w1 mC_202 d202_51 rfl rfl
theorem d202_53 : decode cX12_best 53 = .ok (.iload_n 2, 1) := by decide +kernel
theorem k202_53 {d : Nat} {x : Int32} {l0 l1 l3 l4 l5 l6 : Option PV} {st : List PV} {M : Mem} {Q : Option PV → Mem → Prop} : WP d 202 53 [l0, l1, some (vi x), l3, l4, l5, l6] (st) M Q = WP d 202 54 [l0, l1, some (vi x), l3, l4, l5, l6] (vi x :: st) M Q := w1 mC_202 d202_53 rfl rfl
theorem d202_54 : decode cX12_best 54 = .ok (.invokevirtual 293, 3) := by decide +kernel
theorem k202_54 {d : Nat} {l0 l1 l2 l3 l4 l5 l6 : Option PV} {st : List PV} {M : Mem} {Q : Option PV → Mem → Prop} {a0 a1 a2 : Int32} {r : Nat} (hl : szL st ≤ 8) (hk : mK M r = 12) : WP (d + 1) 202 54 [l0, l1, l2, l3, l4, l5, l6] (vi a2 :: vi a1 :: vi a0 :: vr r :: st) M Q = WP d 199 0 [some (vr r), some (vi a0), some (vi a1), some (vi a2), none, none] [] M (fun v M' => WP (d + 1) 202 57 [l0, l1, l2, l3, l4, l5, l6] (psh v st) M' Q) := w_callV mC_202 d202_54 (ci := 12) rfl rfl rfl (Nat.le_of_ble_eq_true rfl) (by decide) rfl hl hk
theorem d202_57 : decode cX12_best 57 = .ok (.aload_n 0, 1) := by decide +kernel
theorem k202_57 {d x : Nat} {l1 l2 l3 l4 l5 l6 : Option PV} {st : List PV} {M : Mem} {Q : Option PV → Mem → Prop} : WP d 202 57 [some (vr x), l1, l2, l3, l4, l5, l6] (st) M Q = WP d 202 58 [some (vr x), l1, l2, l3, l4, l5, l6] (vr x :: st) M Q := w1 mC_202 d202_57 rfl rfl
theorem d202_58 : decode cX12_best 58 = .ok (.getfield 85, 3) := by decide +kernel
theorem k202_58 {d : Nat} {l0 l1 l2 l3 l4 l5 l6 : Option PV} {st : List PV} {M : Mem} {Q : Option PV → Mem → Prop} {r : Nat} (hk : mK M r = 12) : WP d 202 58 [l0, l1, l2, l3, l4, l5, l6] (vr r :: st) M Q = WP d 202 61 [l0, l1, l2, l3, l4, l5, l6] (vr (mR M r 42) :: st) M Q := w_getr mC_202 d202_58 fE_12_85 rfl (by rw [hk]; rfl)
theorem d202_61 : decode cX12_best 61 = .ok (.iconst 0, 1) := by decide +kernel
theorem k202_61 {d : Nat} {l0 l1 l2 l3 l4 l5 l6 : Option PV} {st : List PV} {M : Mem} {Q : Option PV → Mem → Prop} : WP d 202 61 [l0, l1, l2, l3, l4, l5, l6] (st) M Q = WP d 202 62 [l0, l1, l2, l3, l4, l5, l6] (vi 0 :: st) M Q := w_iconst mC_202 d202_61 (by decide)
theorem d202_62 : decode cX12_best 62 = .ok (.iaload, 1) := by decide +kernel
theorem k202_62 {d : Nat} {l0 l1 l2 l3 l4 l5 l6 : Option PV} {st : List PV} {M : Mem} {Q : Option PV → Mem → Prop} {r : Nat} {j : Int32} (hk : mK M r = 13) (hj : inb j (mN M r)) (h1 : r ≠ 1) : WP d 202 62 [l0, l1, l2, l3, l4, l5, l6] (vi j :: vr r :: st) M Q = WP d 202 63 [l0, l1, l2, l3, l4, l5, l6] (vi (mI M r (ix j)) :: st) M Q := w_iald mC_202 d202_62 (by decide) hk hj h1
theorem d202_63 : decode cX12_best 63 = .ok (.iload 5, 2) := by decide +kernel
theorem k202_63 {d : Nat} {x : Int32} {l0 l1 l2 l3 l4 l6 : Option PV} {st : List PV} {M : Mem} {Q : Option PV → Mem → Prop} : WP d 202 63 [l0, l1, l2, l3, l4, some (vi x), l6] (st) M Q = WP d 202 65 [l0, l1, l2, l3, l4, some (vi x), l6] (vi x :: st) M Q := w1 mC_202 d202_63 rfl rfl
theorem d202_65 : decode cX12_best 65 = .ok (.if_icmp .gt 6, 3) := by decide +kernel
theorem k202_65 {d : Nat} {l0 l1 l2 l3 l4 l5 l6 : Option PV} {st : List PV} {M : Mem} {Q : Option PV → Mem → Prop} {x y : Int32} : WP d 202 65 [l0, l1, l2, l3, l4, l5, l6] (vi y :: vi x :: st) M Q = (if y < x then WP d 202 71 [l0, l1, l2, l3, l4, l5, l6] (st) M Q else WP d 202 68 [l0, l1, l2, l3, l4, l5, l6] (st) M Q) := w_ic_gt mC_202 d202_65 (by decide)
theorem d202_68 : decode cX12_best 68 = .ok (.goto 15, 3) := by decide +kernel
theorem k202_68 {d : Nat} {l0 l1 l2 l3 l4 l5 l6 : Option PV} {st : List PV} {M : Mem} {Q : Option PV → Mem → Prop} : WP d 202 68 [l0, l1, l2, l3, l4, l5, l6] (st) M Q = WP d 202 83 [l0, l1, l2, l3, l4, l5, l6] (st) M Q := w_goto mC_202 d202_68 (by decide)
theorem d202_71 : decode cX12_best 71 = .ok (.aload_n 0, 1) := by decide +kernel
theorem k202_71 {d x : Nat} {l1 l2 l3 l4 l5 l6 : Option PV} {st : List PV} {M : Mem} {Q : Option PV → Mem → Prop} : WP d 202 71 [some (vr x), l1, l2, l3, l4, l5, l6] (st) M Q = WP d 202 72 [some (vr x), l1, l2, l3, l4, l5, l6] (vr x :: st) M Q := w1 mC_202 d202_71 rfl rfl
theorem d202_72 : decode cX12_best 72 = .ok (.getfield 85, 3) := by decide +kernel
theorem k202_72 {d : Nat} {l0 l1 l2 l3 l4 l5 l6 : Option PV} {st : List PV} {M : Mem} {Q : Option PV → Mem → Prop} {r : Nat} (hk : mK M r = 12) : WP d 202 72 [l0, l1, l2, l3, l4, l5, l6] (vr r :: st) M Q = WP d 202 75 [l0, l1, l2, l3, l4, l5, l6] (vr (mR M r 42) :: st) M Q := w_getr mC_202 d202_72 fE_12_85 rfl (by rw [hk]; rfl)
theorem d202_75 : decode cX12_best 75 = .ok (.iconst 0, 1) := by decide +kernel
theorem k202_75 {d : Nat} {l0 l1 l2 l3 l4 l5 l6 : Option PV} {st : List PV} {M : Mem} {Q : Option PV → Mem → Prop} : WP d 202 75 [l0, l1, l2, l3, l4, l5, l6] (st) M Q = WP d 202 76 [l0, l1, l2, l3, l4, l5, l6] (vi 0 :: st) M Q := w_iconst mC_202 d202_75 (by decide)
theorem d202_76 : decode cX12_best 76 = .ok (.iaload, 1) := by decide +kernel
theorem k202_76 {d : Nat} {l0 l1 l2 l3 l4 l5 l6 : Option PV} {st : List PV} {M : Mem} {Q : Option PV → Mem → Prop} {r : Nat} {j : Int32} (hk : mK M r = 13) (hj : inb j (mN M r)) (h1 : r ≠ 1) : WP d 202 76 [l0, l1, l2, l3, l4, l5, l6] (vi j :: vr r :: st) M Q = WP d 202 77 [l0, l1, l2, l3, l4, l5, l6] (vi (mI M r (ix j)) :: st) M Q := w_iald mC_202 d202_76 (by decide) hk hj h1
theorem d202_77 : decode cX12_best 77 = .ok (.istore 5, 2) := by decide +kernel
theorem k202_77 {d : Nat} {l0 l1 l2 l3 l4 l5 l6 : Option PV} {st : List PV} {M : Mem} {Q : Option PV → Mem → Prop} {x : Int32} : WP d 202 77 [l0, l1, l2, l3, l4, l5, l6] (vi x :: st) M Q = WP d 202 79 [l0, l1, l2, l3, l4, some (vi x), l6] (st) M Q := w1 mC_202 d202_77 rfl rfl
theorem d202_79 : decode cX12_best 79 = .ok (.iload 6, 2) := by decide +kernel
theorem k202_79 {d : Nat} {x : Int32} {l0 l1 l2 l3 l4 l5 : Option PV} {st : List PV} {M : Mem} {Q : Option PV → Mem → Prop} : WP d 202 79 [l0, l1, l2, l3, l4, l5, some (vi x)] (st) M Q = WP d 202 81 [l0, l1, l2, l3, l4, l5, some (vi x)] (vi x :: st) M Q := w1 mC_202 d202_79 rfl rfl
theorem d202_81 : decode cX12_best 81 = .ok (.istore 4, 2) := by decide +kernel
theorem k202_81 {d : Nat} {l0 l1 l2 l3 l4 l5 l6 : Option PV} {st : List PV} {M : Mem} {Q : Option PV → Mem → Prop} {x : Int32} : WP d 202 81 [l0, l1, l2, l3, l4, l5, l6] (vi x :: st) M Q = WP d 202 83 [l0, l1, l2, l3, some (vi x), l5, l6] (st) M Q := w1 mC_202 d202_81 rfl rfl
theorem d202_83 : decode cX12_best 83 = .ok (.iinc 6 1, 3) := by decide +kernel
theorem k202_83 {d : Nat} {x : Int32} {l0 l1 l2 l3 l4 l5 : Option PV} {st : List PV} {M : Mem} {Q : Option PV → Mem → Prop} : WP d 202 83 [l0, l1, l2, l3, l4, l5, some (vi x)] (st) M Q = WP d 202 86 [l0, l1, l2, l3, l4, l5, some (vi (x + 1))] (st) M Q := w_iinc mC_202 d202_83 rfl (by decide) rfl
theorem d202_86 : decode cX12_best 86 = .ok (.goto (-46), 3) := by decide +kernel
theorem k202_86 {d : Nat} {l0 l1 l2 l3 l4 l5 l6 : Option PV} {st : List PV} {M : Mem} {Q : Option PV → Mem → Prop} : WP d 202 86 [l0, l1, l2, l3, l4, l5, l6] (st) M Q = WP d 202 40 [l0, l1, l2, l3, l4, l5, l6] (st) M Q := w_goto mC_202 d202_86 (by decide)
theorem d202_89 : decode cX12_best 89 = .ok (.iload_n 3, 1) := by decide +kernel
theorem k202_89 {d : Nat} {x : Int32} {l0 l1 l2 l4 l5 l6 : Option PV} {st : List PV} {M : Mem} {Q : Option PV → Mem → Prop} : WP d 202 89 [l0, l1, l2, some (vi x), l4, l5, l6] (st) M Q = WP d 202 90 [l0, l1, l2, some (vi x), l4, l5, l6] (vi x :: st) M Q := w1 mC_202 d202_89 rfl rfl
theorem d202_90 : decode cX12_best 90 = .ok (.ifCond .ne 8, 3) := by decide +kernel
theorem k202_90 {d : Nat} {l0 l1 l2 l3 l4 l5 l6 : Option PV} {st : List PV} {M : Mem} {Q : Option PV → Mem → Prop} {x : Int32} : WP d 202 90 [l0, l1, l2, l3, l4, l5, l6] (vi x :: st) M Q = (if x = 0 then WP d 202 93 [l0, l1, l2, l3, l4, l5, l6] (st) M Q else WP d 202 98 [l0, l1, l2, l3, l4, l5, l6] (st) M Q) := w_if_ne mC_202 d202_90 (by decide)
theorem d202_93 : decode cX12_best 93 = .ok (.iload 4, 2) := by decide +kernel
theorem k202_93 {d : Nat} {x : Int32} {l0 l1 l2 l3 l5 l6 : Option PV} {st : List PV} {M : Mem} {Q : Option PV → Mem → Prop} : WP d 202 93 [l0, l1, l2, l3, some (vi x), l5, l6] (st) M Q = WP d 202 95 [l0, l1, l2, l3, some (vi x), l5, l6] (vi x :: st) M Q := w1 mC_202 d202_93 rfl rfl
theorem d202_95 : decode cX12_best 95 = .ok (.goto 5, 3) := by decide +kernel
theorem k202_95 {d : Nat} {l0 l1 l2 l3 l4 l5 l6 : Option PV} {st : List PV} {M : Mem} {Q : Option PV → Mem → Prop} : WP d 202 95 [l0, l1, l2, l3, l4, l5, l6] (st) M Q = WP d 202 100 [l0, l1, l2, l3, l4, l5, l6] (st) M Q := w_goto mC_202 d202_95 (by decide)
theorem d202_98 : decode cX12_best 98 = .ok (.iload 5, 2) := by decide +kernel
theorem k202_98 {d : Nat} {x : Int32} {l0 l1 l2 l3 l4 l6 : Option PV} {st : List PV} {M : Mem} {Q : Option PV → Mem → Prop} : WP d 202 98 [l0, l1, l2, l3, l4, some (vi x), l6] (st) M Q = WP d 202 100 [l0, l1, l2, l3, l4, some (vi x), l6] (vi x :: st) M Q := w1 mC_202 d202_98 rfl rfl
theorem d202_100 : decode cX12_best 100 = .ok (.ireturn, 1) := by decide +kernel
theorem k202_100 {d : Nat} {l0 l1 l2 l3 l4 l5 l6 : Option PV} {M : Mem} {Q : Option PV → Mem → Prop} {x : Int32} : WP d 202 100 [l0, l1, l2, l3, l4, l5, l6] ([vi x]) M Q = Q (some (vi x)) M := w_iret mC_202 d202_100 rfl
theorem d203_0 : decode cX12_deals 0 = .ok (.iload_n 1, 1) := by decide +kernel
theorem k203_0 {d : Nat} {x : Int32} {l0 l2 l3 l4 : Option PV} {st : List PV} {M : Mem} {Q : Option PV → Mem → Prop} : WP d 203 0 [l0, some (vi x), l2, l3, l4] (st) M Q = WP d 203 1 [l0, some (vi x), l2, l3, l4] (vi x :: st) M Q := w1 mC_203 d203_0 rfl rfl
theorem d203_1 : decode cX12_deals 1 = .ok (.aload_n 0, 1) := by decide +kernel
theorem k203_1 {d x : Nat} {l1 l2 l3 l4 : Option PV} {st : List PV} {M : Mem} {Q : Option PV → Mem → Prop} : WP d 203 1 [some (vr x), l1, l2, l3, l4] (st) M Q = WP d 203 2 [some (vr x), l1, l2, l3, l4] (vr x :: st) M Q := w1 mC_203 d203_1 rfl rfl
theorem d203_2 : decode cX12_deals 2 = .ok (.getfield 100, 3) := by decide +kernel
theorem k203_2 {d : Nat} {l0 l1 l2 l3 l4 : Option PV} {st : List PV} {M : Mem} {Q : Option PV → Mem → Prop} {r : Nat} (hk : mK M r = 12) : WP d 203 2 [l0, l1, l2, l3, l4] (vr r :: st) M Q = WP d 203 5 [l0, l1, l2, l3, l4] (vi (mI M r 0) :: st) M Q := w_get mC_203 d203_2 fE_12_100 rfl (by rw [hk]; rfl)
theorem d203_5 : decode cX12_deals 5 = .ok (.if_icmp .ne 48, 3) := by decide +kernel
theorem k203_5 {d : Nat} {l0 l1 l2 l3 l4 : Option PV} {st : List PV} {M : Mem} {Q : Option PV → Mem → Prop} {x y : Int32} : WP d 203 5 [l0, l1, l2, l3, l4] (vi y :: vi x :: st) M Q = (if x = y then WP d 203 8 [l0, l1, l2, l3, l4] (st) M Q else WP d 203 53 [l0, l1, l2, l3, l4] (st) M Q) := w_ic_ne mC_203 d203_5 (by decide)
theorem d203_8 : decode cX12_deals 8 = .ok (.iload_n 3, 1) := by decide +kernel
theorem k203_8 {d : Nat} {x : Int32} {l0 l1 l2 l4 : Option PV} {st : List PV} {M : Mem} {Q : Option PV → Mem → Prop} : WP d 203 8 [l0, l1, l2, some (vi x), l4] (st) M Q = WP d 203 9 [l0, l1, l2, some (vi x), l4] (vi x :: st) M Q := w1 mC_203 d203_8 rfl rfl
theorem d203_9 : decode cX12_deals 9 = .ok (.aload_n 0, 1) := by decide +kernel
theorem k203_9 {d x : Nat} {l1 l2 l3 l4 : Option PV} {st : List PV} {M : Mem} {Q : Option PV → Mem → Prop} : WP d 203 9 [some (vr x), l1, l2, l3, l4] (st) M Q = WP d 203 10 [some (vr x), l1, l2, l3, l4] (vr x :: st) M Q := w1 mC_203 d203_9 rfl rfl
theorem d203_10 : decode cX12_deals 10 = .ok (.getfield 296, 3) := by decide +kernel
theorem k203_10 {d : Nat} {l0 l1 l2 l3 l4 : Option PV} {st : List PV} {M : Mem} {Q : Option PV → Mem → Prop} {r : Nat} (hk : mK M r = 12) : WP d 203 10 [l0, l1, l2, l3, l4] (vr r :: st) M Q = WP d 203 13 [l0, l1, l2, l3, l4] (vi (mI M r 46) :: st) M Q := w_get mC_203 d203_10 fE_12_296 rfl (by rw [hk]; rfl)
theorem d203_13 : decode cX12_deals 13 = .ok (.if_icmp .gt 4, 3) := by decide +kernel
theorem k203_13 {d : Nat} {l0 l1 l2 l3 l4 : Option PV} {st : List PV} {M : Mem} {Q : Option PV → Mem → Prop} {x y : Int32} : WP d 203 13 [l0, l1, l2, l3, l4] (vi y :: vi x :: st) M Q = (if y < x then WP d 203 17 [l0, l1, l2, l3, l4] (st) M Q else WP d 203 16 [l0, l1, l2, l3, l4] (st) M Q) := w_ic_gt mC_203 d203_13 (by decide)
theorem d203_16 : decode cX12_deals 16 = .ok (.return_, 1) := by decide +kernel
theorem k203_16 {d : Nat} {l0 l1 l2 l3 l4 : Option PV} {M : Mem} {Q : Option PV → Mem → Prop} : WP d 203 16 [l0, l1, l2, l3, l4] ([]) M Q = Q none M := w_vret mC_203 d203_16 rfl
theorem d203_17 : decode cX12_deals 17 = .ok (.aload_n 0, 1) := by decide +kernel
theorem k203_17 {d x : Nat} {l1 l2 l3 l4 : Option PV} {st : List PV} {M : Mem} {Q : Option PV → Mem → Prop} : WP d 203 17 [some (vr x), l1, l2, l3, l4] (st) M Q = WP d 203 18 [some (vr x), l1, l2, l3, l4] (vr x :: st) M Q := w1 mC_203 d203_17 rfl rfl
theorem d203_18 : decode cX12_deals 18 = .ok (.iload_n 3, 1) := by decide +kernel
theorem k203_18 {d : Nat} {x : Int32} {l0 l1 l2 l4 : Option PV} {st : List PV} {M : Mem} {Q : Option PV → Mem → Prop} : WP d 203 18 [l0, l1, l2, some (vi x), l4] (st) M Q = WP d 203 19 [l0, l1, l2, some (vi x), l4] (vi x :: st) M Q := w1 mC_203 d203_18 rfl rfl
theorem d203_19 : decode cX12_deals 19 = .ok (.putfield 296, 3) := by decide +kernel
theorem k203_19 {d : Nat} {l0 l1 l2 l3 l4 : Option PV} {st : List PV} {M : Mem} {Q : Option PV → Mem → Prop} {r : Nat} {x : Int32} (hk : mK M r = 12) : WP d 203 19 [l0, l1, l2, l3, l4] (vi x :: vr r :: st) M Q = WP d 203 22 [l0, l1, l2, l3, l4] (st) (sI M r 46 x) Q := w_put mC_203 d203_19 fE_12_296 (by decide +kernel) (by rw [hk]; rfl)
theorem d203_22 : decode cX12_deals 22 = .ok (.iconst 0, 1) := by decide +kernel
theorem k203_22 {d : Nat} {l0 l1 l2 l3 l4 : Option PV} {st : List PV} {M : Mem} {Q : Option PV → Mem → Prop} : WP d 203 22 [l0, l1, l2, l3, l4] (st) M Q = WP d 203 23 [l0, l1, l2, l3, l4] (vi 0 :: st) M Q := w_iconst mC_203 d203_22 (by decide)
theorem d203_23 : decode cX12_deals 23 = .ok (.istore 4, 2) := by decide +kernel
theorem k203_23 {d : Nat} {l0 l1 l2 l3 l4 : Option PV} {st : List PV} {M : Mem} {Q : Option PV → Mem → Prop} {x : Int32} : WP d 203 23 [l0, l1, l2, l3, l4] (vi x :: st) M Q = WP d 203 25 [l0, l1, l2, l3, some (vi x)] (st) M Q := w1 mC_203 d203_23 rfl rfl
theorem d203_25 : decode cX12_deals 25 = .ok (.iload 4, 2) := by decide +kernel
theorem k203_25 {d : Nat} {x : Int32} {l0 l1 l2 l3 : Option PV} {st : List PV} {M : Mem} {Q : Option PV → Mem → Prop} : WP d 203 25 [l0, l1, l2, l3, some (vi x)] (st) M Q = WP d 203 27 [l0, l1, l2, l3, some (vi x)] (vi x :: st) M Q := w1 mC_203 d203_25 rfl rfl
theorem d203_27 : decode cX12_deals 27 = .ok (.bipush 8, 2) := by decide +kernel
theorem k203_27 {d : Nat} {l0 l1 l2 l3 l4 : Option PV} {st : List PV} {M : Mem} {Q : Option PV → Mem → Prop} : WP d 203 27 [l0, l1, l2, l3, l4] (st) M Q = WP d 203 29 [l0, l1, l2, l3, l4] (vi 8 :: st) M Q := w_bipush mC_203 d203_27 (by decide)
theorem d203_29 : decode cX12_deals 29 = .ok (.if_icmp .ge 23, 3) := by decide +kernel
theorem k203_29 {d : Nat} {l0 l1 l2 l3 l4 : Option PV} {st : List PV} {M : Mem} {Q : Option PV → Mem → Prop} {x y : Int32} : WP d 203 29 [l0, l1, l2, l3, l4] (vi y :: vi x :: st) M Q = (if y ≤ x then WP d 203 52 [l0, l1, l2, l3, l4] (st) M Q else WP d 203 32 [l0, l1, l2, l3, l4] (st) M Q) := w_ic_ge mC_203 d203_29 (by decide)
theorem d203_32 : decode cX12_deals 32 = .ok (.aload_n 0, 1) := by decide +kernel
theorem k203_32 {d x : Nat} {l1 l2 l3 l4 : Option PV} {st : List PV} {M : Mem} {Q : Option PV → Mem → Prop} : WP d 203 32 [some (vr x), l1, l2, l3, l4] (st) M Q = WP d 203 33 [some (vr x), l1, l2, l3, l4] (vr x :: st) M Q := w1 mC_203 d203_32 rfl rfl
theorem d203_33 : decode cX12_deals 33 = .ok (.getfield 94, 3) := by decide +kernel
theorem k203_33 {d : Nat} {l0 l1 l2 l3 l4 : Option PV} {st : List PV} {M : Mem} {Q : Option PV → Mem → Prop} {r : Nat} (hk : mK M r = 12) : WP d 203 33 [l0, l1, l2, l3, l4] (vr r :: st) M Q = WP d 203 36 [l0, l1, l2, l3, l4] (vr (mR M r 45) :: st) M Q := w_getr mC_203 d203_33 fE_12_94 rfl (by rw [hk]; rfl)
theorem d203_36 : decode cX12_deals 36 = .ok (.iload 4, 2) := by decide +kernel
theorem k203_36 {d : Nat} {x : Int32} {l0 l1 l2 l3 : Option PV} {st : List PV} {M : Mem} {Q : Option PV → Mem → Prop} : WP d 203 36 [l0, l1, l2, l3, some (vi x)] (st) M Q = WP d 203 38 [l0, l1, l2, l3, some (vi x)] (vi x :: st) M Q := w1 mC_203 d203_36 rfl rfl
theorem d203_38 : decode cX12_deals 38 = .ok (.aload_n 0, 1) := by decide +kernel
theorem k203_38 {d x : Nat} {l1 l2 l3 l4 : Option PV} {st : List PV} {M : Mem} {Q : Option PV → Mem → Prop} : WP d 203 38 [some (vr x), l1, l2, l3, l4] (st) M Q = WP d 203 39 [some (vr x), l1, l2, l3, l4] (vr x :: st) M Q := w1 mC_203 d203_38 rfl rfl
theorem d203_39 : decode cX12_deals 39 = .ok (.getfield 91, 3) := by decide +kernel
theorem k203_39 {d : Nat} {l0 l1 l2 l3 l4 : Option PV} {st : List PV} {M : Mem} {Q : Option PV → Mem → Prop} {r : Nat} (hk : mK M r = 12) : WP d 203 39 [l0, l1, l2, l3, l4] (vr r :: st) M Q = WP d 203 42 [l0, l1, l2, l3, l4] (vr (mR M r 44) :: st) M Q := w_getr mC_203 d203_39 fE_12_91 rfl (by rw [hk]; rfl)
theorem d203_42 : decode cX12_deals 42 = .ok (.iload 4, 2) := by decide +kernel
theorem k203_42 {d : Nat} {x : Int32} {l0 l1 l2 l3 : Option PV} {st : List PV} {M : Mem} {Q : Option PV → Mem → Prop} : WP d 203 42 [l0, l1, l2, l3, some (vi x)] (st) M Q = WP d 203 44 [l0, l1, l2, l3, some (vi x)] (vi x :: st) M Q := w1 mC_203 d203_42 rfl rfl
theorem d203_44 : decode cX12_deals 44 = .ok (.iaload, 1) := by decide +kernel
theorem k203_44 {d : Nat} {l0 l1 l2 l3 l4 : Option PV} {st : List PV} {M : Mem} {Q : Option PV → Mem → Prop} {r : Nat} {j : Int32} (hk : mK M r = 13) (hj : inb j (mN M r)) (h1 : r ≠ 1) : WP d 203 44 [l0, l1, l2, l3, l4] (vi j :: vr r :: st) M Q = WP d 203 45 [l0, l1, l2, l3, l4] (vi (mI M r (ix j)) :: st) M Q := w_iald mC_203 d203_44 (by decide) hk hj h1
theorem d203_45 : decode cX12_deals 45 = .ok (.iastore, 1) := by decide +kernel
theorem k203_45 {d : Nat} {l0 l1 l2 l3 l4 : Option PV} {st : List PV} {M : Mem} {Q : Option PV → Mem → Prop} {r : Nat} {j x : Int32} (hk : mK M r = 13) (hj : inb j (mN M r)) (h1 : r ≠ 1) : WP d 203 45 [l0, l1, l2, l3, l4] (vi x :: vi j :: vr r :: st) M Q = WP d 203 46 [l0, l1, l2, l3, l4] (st) (sI M r (ix j) x) Q := w_iast mC_203 d203_45 hk hj h1
theorem d203_46 : decode cX12_deals 46 = .ok (.iinc 4 1, 3) := by decide +kernel
theorem k203_46 {d : Nat} {x : Int32} {l0 l1 l2 l3 : Option PV} {st : List PV} {M : Mem} {Q : Option PV → Mem → Prop} : WP d 203 46 [l0, l1, l2, l3, some (vi x)] (st) M Q = WP d 203 49 [l0, l1, l2, l3, some (vi (x + 1))] (st) M Q := w_iinc mC_203 d203_46 rfl (by decide) rfl
theorem d203_49 : decode cX12_deals 49 = .ok (.goto (-24), 3) := by decide +kernel
theorem k203_49 {d : Nat} {l0 l1 l2 l3 l4 : Option PV} {st : List PV} {M : Mem} {Q : Option PV → Mem → Prop} : WP d 203 49 [l0, l1, l2, l3, l4] (st) M Q = WP d 203 25 [l0, l1, l2, l3, l4] (st) M Q := w_goto mC_203 d203_49 (by decide)
theorem d203_52 : decode cX12_deals 52 = .ok (.return_, 1) := by decide +kernel
theorem k203_52 {d : Nat} {l0 l1 l2 l3 l4 : Option PV} {M : Mem} {Q : Option PV → Mem → Prop} : WP d 203 52 [l0, l1, l2, l3, l4] ([]) M Q = Q none M := w_vret mC_203 d203_52 rfl
theorem d203_53 : decode cX12_deals 53 = .ok (.iconst 0, 1) := by decide +kernel
theorem k203_53 {d : Nat} {l0 l1 l2 l3 l4 : Option PV} {st : List PV} {M : Mem} {Q : Option PV → Mem → Prop} : WP d 203 53 [l0, l1, l2, l3, l4] (st) M Q = WP d 203 54 [l0, l1, l2, l3, l4] (vi 0 :: st) M Q := w_iconst mC_203 d203_53 (by decide)
theorem d203_54 : decode cX12_deals 54 = .ok (.istore 4, 2) := by decide +kernel
theorem k203_54 {d : Nat} {l0 l1 l2 l3 l4 : Option PV} {st : List PV} {M : Mem} {Q : Option PV → Mem → Prop} {x : Int32} : WP d 203 54 [l0, l1, l2, l3, l4] (vi x :: st) M Q = WP d 203 56 [l0, l1, l2, l3, some (vi x)] (st) M Q := w1 mC_203 d203_54 rfl rfl
theorem d203_56 : decode cX12_deals 56 = .ok (.iload 4, 2) := by decide +kernel
theorem k203_56 {d : Nat} {x : Int32} {l0 l1 l2 l3 : Option PV} {st : List PV} {M : Mem} {Q : Option PV → Mem → Prop} : WP d 203 56 [l0, l1, l2, l3, some (vi x)] (st) M Q = WP d 203 58 [l0, l1, l2, l3, some (vi x)] (vi x :: st) M Q := w1 mC_203 d203_56 rfl rfl
theorem d203_58 : decode cX12_deals 58 = .ok (.aload_n 0, 1) := by decide +kernel
theorem k203_58 {d x : Nat} {l1 l2 l3 l4 : Option PV} {st : List PV} {M : Mem} {Q : Option PV → Mem → Prop} : WP d 203 58 [some (vr x), l1, l2, l3, l4] (st) M Q = WP d 203 59 [some (vr x), l1, l2, l3, l4] (vr x :: st) M Q := w1 mC_203 d203_58 rfl rfl
theorem d203_59 : decode cX12_deals 59 = .ok (.getfield 108, 3) := by decide +kernel
theorem k203_59 {d : Nat} {l0 l1 l2 l3 l4 : Option PV} {st : List PV} {M : Mem} {Q : Option PV → Mem → Prop} {r : Nat} (hk : mK M r = 12) : WP d 203 59 [l0, l1, l2, l3, l4] (vr r :: st) M Q = WP d 203 62 [l0, l1, l2, l3, l4] (vi (mI M r 1) :: st) M Q := w_get mC_203 d203_59 fE_12_108 rfl (by rw [hk]; rfl)
theorem d203_62 : decode cX12_deals 62 = .ok (.if_icmp .ge 72, 3) := by decide +kernel
theorem k203_62 {d : Nat} {l0 l1 l2 l3 l4 : Option PV} {st : List PV} {M : Mem} {Q : Option PV → Mem → Prop} {x y : Int32} : WP d 203 62 [l0, l1, l2, l3, l4] (vi y :: vi x :: st) M Q = (if y ≤ x then WP d 203 134 [l0, l1, l2, l3, l4] (st) M Q else WP d 203 65 [l0, l1, l2, l3, l4] (st) M Q) := w_ic_ge mC_203 d203_62 (by decide)
theorem d203_65 : decode cX12_deals 65 = .ok (.iload_n 2, 1) := by decide +kernel
theorem k203_65 {d : Nat} {x : Int32} {l0 l1 l3 l4 : Option PV} {st : List PV} {M : Mem} {Q : Option PV → Mem → Prop} : WP d 203 65 [l0, l1, some (vi x), l3, l4] (st) M Q = WP d 203 66 [l0, l1, some (vi x), l3, l4] (vi x :: st) M Q := w1 mC_203 d203_65 rfl rfl
theorem d203_66 : decode cX12_deals 66 = .ok (.iload 4, 2) := by decide +kernel
theorem k203_66 {d : Nat} {x : Int32} {l0 l1 l2 l3 : Option PV} {st : List PV} {M : Mem} {Q : Option PV → Mem → Prop} : WP d 203 66 [l0, l1, l2, l3, some (vi x)] (st) M Q = WP d 203 68 [l0, l1, l2, l3, some (vi x)] (vi x :: st) M Q := w1 mC_203 d203_66 rfl rfl
theorem d203_68 : decode cX12_deals 68 = .ok (.ishr, 1) := by decide +kernel
theorem k203_68 {d : Nat} {l0 l1 l2 l3 l4 : Option PV} {st : List PV} {M : Mem} {Q : Option PV → Mem → Prop} {x y : Int32} : WP d 203 68 [l0, l1, l2, l3, l4] (vi y :: vi x :: st) M Q = WP d 203 69 [l0, l1, l2, l3, l4] (vi (x >>> (y &&& 31)) :: st) M Q := w1 mC_203 d203_68 rfl rfl
theorem d203_69 : decode cX12_deals 69 = .ok (.iconst 1, 1) := by decide +kernel
theorem k203_69 {d : Nat} {l0 l1 l2 l3 l4 : Option PV} {st : List PV} {M : Mem} {Q : Option PV → Mem → Prop} : WP d 203 69 [l0, l1, l2, l3, l4] (st) M Q = WP d 203 70 [l0, l1, l2, l3, l4] (vi 1 :: st) M Q := w_iconst mC_203 d203_69 (by decide)
theorem d203_70 : decode cX12_deals 70 = .ok (.iand, 1) := by decide +kernel
theorem k203_70 {d : Nat} {l0 l1 l2 l3 l4 : Option PV} {st : List PV} {M : Mem} {Q : Option PV → Mem → Prop} {x y : Int32} : WP d 203 70 [l0, l1, l2, l3, l4] (vi y :: vi x :: st) M Q = WP d 203 71 [l0, l1, l2, l3, l4] (vi (x &&& y) :: st) M Q := w1 mC_203 d203_70 rfl rfl
theorem d203_71 : decode cX12_deals 71 = .ok (.iconst 1, 1) := by decide +kernel
theorem k203_71 {d : Nat} {l0 l1 l2 l3 l4 : Option PV} {st : List PV} {M : Mem} {Q : Option PV → Mem → Prop} : WP d 203 71 [l0, l1, l2, l3, l4] (st) M Q = WP d 203 72 [l0, l1, l2, l3, l4] (vi 1 :: st) M Q := w_iconst mC_203 d203_71 (by decide)
theorem d203_72 : decode cX12_deals 72 = .ok (.if_icmp .eq 56, 3) := by decide +kernel
theorem k203_72 {d : Nat} {l0 l1 l2 l3 l4 : Option PV} {st : List PV} {M : Mem} {Q : Option PV → Mem → Prop} {x y : Int32} : WP d 203 72 [l0, l1, l2, l3, l4] (vi y :: vi x :: st) M Q = (if x = y then WP d 203 128 [l0, l1, l2, l3, l4] (st) M Q else WP d 203 75 [l0, l1, l2, l3, l4] (st) M Q) := w_ic_eq mC_203 d203_72 (by decide)
theorem d203_75 : decode cX12_deals 75 = .ok (.aload_n 0, 1) := by decide +kernel
theorem k203_75 {d x : Nat} {l1 l2 l3 l4 : Option PV} {st : List PV} {M : Mem} {Q : Option PV → Mem → Prop} : WP d 203 75 [some (vr x), l1, l2, l3, l4] (st) M Q = WP d 203 76 [some (vr x), l1, l2, l3, l4] (vr x :: st) M Q := w1 mC_203 d203_75 rfl rfl
theorem d203_76 : decode cX12_deals 76 = .ok (.getfield 88, 3) := by decide +kernel
theorem k203_76 {d : Nat} {l0 l1 l2 l3 l4 : Option PV} {st : List PV} {M : Mem} {Q : Option PV → Mem → Prop} {r : Nat} (hk : mK M r = 12) : WP d 203 76 [l0, l1, l2, l3, l4] (vr r :: st) M Q = WP d 203 79 [l0, l1, l2, l3, l4] (vr (mR M r 43) :: st) M Q := w_getr mC_203 d203_76 fE_12_88 rfl (by rw [hk]; rfl)
theorem d203_79 : decode cX12_deals 79 = .ok (.bipush 8, 2) := by decide +kernel
theorem k203_79 {d : Nat} {l0 l1 l2 l3 l4 : Option PV} {st : List PV} {M : Mem} {Q : Option PV → Mem → Prop} : WP d 203 79 [l0, l1, l2, l3, l4] (st) M Q = WP d 203 81 [l0, l1, l2, l3, l4] (vi 8 :: st) M Q := w_bipush mC_203 d203_79 (by decide)
theorem d203_81 : decode cX12_deals 81 = .ok (.iload_n 1, 1) := by decide +kernel
theorem k203_81 {d : Nat} {x : Int32} {l0 l2 l3 l4 : Option PV} {st : List PV} {M : Mem} {Q : Option PV → Mem → Prop} : WP d 203 81 [l0, some (vi x), l2, l3, l4] (st) M Q = WP d 203 82 [l0, some (vi x), l2, l3, l4] (vi x :: st) M Q := w1 mC_203 d203_81 rfl rfl
theorem d203_82 : decode cX12_deals 82 = .ok (.imul, 1) := by decide +kernel
theorem k203_82 {d : Nat} {l0 l1 l2 l3 l4 : Option PV} {st : List PV} {M : Mem} {Q : Option PV → Mem → Prop} {x y : Int32} : WP d 203 82 [l0, l1, l2, l3, l4] (vi y :: vi x :: st) M Q = WP d 203 83 [l0, l1, l2, l3, l4] (vi (x * y) :: st) M Q := w1 mC_203 d203_82 rfl rfl
theorem d203_83 : decode cX12_deals 83 = .ok (.iload 4, 2) := by decide +kernel
theorem k203_83 {d : Nat} {x : Int32} {l0 l1 l2 l3 : Option PV} {st : List PV} {M : Mem} {Q : Option PV → Mem → Prop} : WP d 203 83 [l0, l1, l2, l3, some (vi x)] (st) M Q = WP d 203 85 [l0, l1, l2, l3, some (vi x)] (vi x :: st) M Q := w1 mC_203 d203_83 rfl rfl
theorem d203_85 : decode cX12_deals 85 = .ok (.iadd, 1) := by decide +kernel
theorem k203_85 {d : Nat} {l0 l1 l2 l3 l4 : Option PV} {st : List PV} {M : Mem} {Q : Option PV → Mem → Prop} {x y : Int32} : WP d 203 85 [l0, l1, l2, l3, l4] (vi y :: vi x :: st) M Q = WP d 203 86 [l0, l1, l2, l3, l4] (vi (x + y) :: st) M Q := w1 mC_203 d203_85 rfl rfl
theorem d203_86 : decode cX12_deals 86 = .ok (.iaload, 1) := by decide +kernel
theorem k203_86 {d : Nat} {l0 l1 l2 l3 l4 : Option PV} {st : List PV} {M : Mem} {Q : Option PV → Mem → Prop} {r : Nat} {j : Int32} (hk : mK M r = 13) (hj : inb j (mN M r)) (h1 : r ≠ 1) : WP d 203 86 [l0, l1, l2, l3, l4] (vi j :: vr r :: st) M Q = WP d 203 87 [l0, l1, l2, l3, l4] (vi (mI M r (ix j)) :: st) M Q := w_iald mC_203 d203_86 (by decide) hk hj h1
theorem d203_87 : decode cX12_deals 87 = .ok (.ifCond .gt 6, 3) := by decide +kernel
theorem k203_87 {d : Nat} {l0 l1 l2 l3 l4 : Option PV} {st : List PV} {M : Mem} {Q : Option PV → Mem → Prop} {x : Int32} : WP d 203 87 [l0, l1, l2, l3, l4] (vi x :: st) M Q = (if 0 < x then WP d 203 93 [l0, l1, l2, l3, l4] (st) M Q else WP d 203 90 [l0, l1, l2, l3, l4] (st) M Q) := w_if_gt mC_203 d203_87 (by decide)
theorem d203_90 : decode cX12_deals 90 = .ok (.goto 38, 3) := by decide +kernel
theorem k203_90 {d : Nat} {l0 l1 l2 l3 l4 : Option PV} {st : List PV} {M : Mem} {Q : Option PV → Mem → Prop} : WP d 203 90 [l0, l1, l2, l3, l4] (st) M Q = WP d 203 128 [l0, l1, l2, l3, l4] (st) M Q := w_goto mC_203 d203_90 (by decide)
theorem d203_93 : decode cX12_deals 93 = .ok (.aload_n 0, 1) := by decide +kernel
theorem k203_93 {d x : Nat} {l1 l2 l3 l4 : Option PV} {st : List PV} {M : Mem} {Q : Option PV → Mem → Prop} : WP d 203 93 [some (vr x), l1, l2, l3, l4] (st) M Q = WP d 203 94 [some (vr x), l1, l2, l3, l4] (vr x :: st) M Q := w1 mC_203 d203_93 rfl rfl
theorem d203_94 : decode cX12_deals 94 = .ok (.getfield 91, 3) := by decide +kernel
theorem k203_94 {d : Nat} {l0 l1 l2 l3 l4 : Option PV} {st : List PV} {M : Mem} {Q : Option PV → Mem → Prop} {r : Nat} (hk : mK M r = 12) : WP d 203 94 [l0, l1, l2, l3, l4] (vr r :: st) M Q = WP d 203 97 [l0, l1, l2, l3, l4] (vr (mR M r 44) :: st) M Q := w_getr mC_203 d203_94 fE_12_91 rfl (by rw [hk]; rfl)
theorem d203_97 : decode cX12_deals 97 = .ok (.iload_n 1, 1) := by decide +kernel
theorem k203_97 {d : Nat} {x : Int32} {l0 l2 l3 l4 : Option PV} {st : List PV} {M : Mem} {Q : Option PV → Mem → Prop} : WP d 203 97 [l0, some (vi x), l2, l3, l4] (st) M Q = WP d 203 98 [l0, some (vi x), l2, l3, l4] (vi x :: st) M Q := w1 mC_203 d203_97 rfl rfl
theorem d203_98 : decode cX12_deals 98 = .ok (.iload 4, 2) := by decide +kernel
theorem k203_98 {d : Nat} {x : Int32} {l0 l1 l2 l3 : Option PV} {st : List PV} {M : Mem} {Q : Option PV → Mem → Prop} : WP d 203 98 [l0, l1, l2, l3, some (vi x)] (st) M Q = WP d 203 100 [l0, l1, l2, l3, some (vi x)] (vi x :: st) M Q := w1 mC_203 d203_98 rfl rfl
theorem d203_100 : decode cX12_deals 100 = .ok (.iastore, 1) := by decide +kernel
theorem k203_100 {d : Nat} {l0 l1 l2 l3 l4 : Option PV} {st : List PV} {M : Mem} {Q : Option PV → Mem → Prop} {r : Nat} {j x : Int32} (hk : mK M r = 13) (hj : inb j (mN M r)) (h1 : r ≠ 1) : WP d 203 100 [l0, l1, l2, l3, l4] (vi x :: vi j :: vr r :: st) M Q = WP d 203 101 [l0, l1, l2, l3, l4] (st) (sI M r (ix j) x) Q := w_iast mC_203 d203_100 hk hj h1
theorem d203_101 : decode cX12_deals 101 = .ok (.aload_n 0, 1) := by decide +kernel
theorem k203_101 {d x : Nat} {l1 l2 l3 l4 : Option PV} {st : List PV} {M : Mem} {Q : Option PV → Mem → Prop} : WP d 203 101 [some (vr x), l1, l2, l3, l4] (st) M Q = WP d 203 102 [some (vr x), l1, l2, l3, l4] (vr x :: st) M Q := w1 mC_203 d203_101 rfl rfl
theorem d203_102 : decode cX12_deals 102 = .ok (.iload_n 1, 1) := by decide +kernel
theorem k203_102 {d : Nat} {x : Int32} {l0 l2 l3 l4 : Option PV} {st : List PV} {M : Mem} {Q : Option PV → Mem → Prop} : WP d 203 102 [l0, some (vi x), l2, l3, l4] (st) M Q = WP d 203 103 [l0, some (vi x), l2, l3, l4] (vi x :: st) M Q := w1 mC_203 d203_102 rfl rfl
theorem d203_103 : decode cX12_deals 103 = .ok (.iconst 1, 1) := by decide +kernel
theorem k203_103 {d : Nat} {l0 l1 l2 l3 l4 : Option PV} {st : List PV} {M : Mem} {Q : Option PV → Mem → Prop} : WP d 203 103 [l0, l1, l2, l3, l4] (st) M Q = WP d 203 104 [l0, l1, l2, l3, l4] (vi 1 :: st) M Q := w_iconst mC_203 d203_103 (by decide)
theorem d203_104 : decode cX12_deals 104 = .ok (.iadd, 1) := by decide +kernel
theorem k203_104 {d : Nat} {l0 l1 l2 l3 l4 : Option PV} {st : List PV} {M : Mem} {Q : Option PV → Mem → Prop} {x y : Int32} : WP d 203 104 [l0, l1, l2, l3, l4] (vi y :: vi x :: st) M Q = WP d 203 105 [l0, l1, l2, l3, l4] (vi (x + y) :: st) M Q := w1 mC_203 d203_104 rfl rfl
theorem d203_105 : decode cX12_deals 105 = .ok (.iload_n 2, 1) := by decide +kernel
theorem k203_105 {d : Nat} {x : Int32} {l0 l1 l3 l4 : Option PV} {st : List PV} {M : Mem} {Q : Option PV → Mem → Prop} : WP d 203 105 [l0, l1, some (vi x), l3, l4] (st) M Q = WP d 203 106 [l0, l1, some (vi x), l3, l4] (vi x :: st) M Q := w1 mC_203 d203_105 rfl rfl
theorem d203_106 : decode cX12_deals 106 = .ok (.iconst 1, 1) := by decide +kernel
theorem k203_106 {d : Nat} {l0 l1 l2 l3 l4 : Option PV} {st : List PV} {M : Mem} {Q : Option PV → Mem → Prop} : WP d 203 106 [l0, l1, l2, l3, l4] (st) M Q = WP d 203 107 [l0, l1, l2, l3, l4] (vi 1 :: st) M Q := w_iconst mC_203 d203_106 (by decide)
theorem d203_107 : decode cX12_deals 107 = .ok (.iload 4, 2) := by decide +kernel
theorem k203_107 {d : Nat} {x : Int32} {l0 l1 l2 l3 : Option PV} {st : List PV} {M : Mem} {Q : Option PV → Mem → Prop} : WP d 203 107 [l0, l1, l2, l3, some (vi x)] (st) M Q = WP d 203 109 [l0, l1, l2, l3, some (vi x)] (vi x :: st) M Q := w1 mC_203 d203_107 rfl rfl
theorem d203_109 : decode cX12_deals 109 = .ok (.ishl, 1) := by decide +kernel
theorem k203_109 {d : Nat} {l0 l1 l2 l3 l4 : Option PV} {st : List PV} {M : Mem} {Q : Option PV → Mem → Prop} {x y : Int32} : WP d 203 109 [l0, l1, l2, l3, l4] (vi y :: vi x :: st) M Q = WP d 203 110 [l0, l1, l2, l3, l4] (vi (x <<< (y &&& 31)) :: st) M Q := w1 mC_203 d203_109 rfl rfl
theorem d203_110 : decode cX12_deals 110 = .ok (.ior, 1) := by decide +kernel
theorem k203_110 {d : Nat} {l0 l1 l2 l3 l4 : Option PV} {st : List PV} {M : Mem} {Q : Option PV → Mem → Prop} {x y : Int32} : WP d 203 110 [l0, l1, l2, l3, l4] (vi y :: vi x :: st) M Q = WP d 203 111 [l0, l1, l2, l3, l4] (vi (x ||| y) :: st) M Q := w1 mC_203 d203_110 rfl rfl
theorem d203_111 : decode cX12_deals 111 = .ok (.iload_n 3, 1) := by decide +kernel
theorem k203_111 {d : Nat} {x : Int32} {l0 l1 l2 l4 : Option PV} {st : List PV} {M : Mem} {Q : Option PV → Mem → Prop} : WP d 203 111 [l0, l1, l2, some (vi x), l4] (st) M Q = WP d 203 112 [l0, l1, l2, some (vi x), l4] (vi x :: st) M Q := w1 mC_203 d203_111 rfl rfl
theorem d203_112 : decode cX12_deals 112 = .ok (.aload_n 0, 1) := by decide +kernel
theorem k203_112 {d x : Nat} {l1 l2 l3 l4 : Option PV} {st : List PV} {M : Mem} {Q : Option PV → Mem → Prop} : WP d 203 112 [some (vr x), l1, l2, l3, l4] (st) M Q = WP d 203 113 [some (vr x), l1, l2, l3, l4] (vr x :: st) M Q := w1 mC_203 d203_112 rfl rfl
theorem d203_113 : decode cX12_deals 113 = .ok (.getfield 88, 3) := by decide +kernel
theorem k203_113 {d : Nat} {l0 l1 l2 l3 l4 : Option PV} {st : List PV} {M : Mem} {Q : Option PV → Mem → Prop} {r : Nat} (hk : mK M r = 12) : WP d 203 113 [l0, l1, l2, l3, l4] (vr r :: st) M Q = WP d 203 116 [l0, l1, l2, l3, l4] (vr (mR M r 43) :: st) M Q := w_getr mC_203 d203_113 fE_12_88 rfl (by rw [hk]; rfl)
theorem d203_116 : decode cX12_deals 116 = .ok (.bipush 8, 2) := by decide +kernel
theorem k203_116 {d : Nat} {l0 l1 l2 l3 l4 : Option PV} {st : List PV} {M : Mem} {Q : Option PV → Mem → Prop} : WP d 203 116 [l0, l1, l2, l3, l4] (st) M Q = WP d 203 118 [l0, l1, l2, l3, l4] (vi 8 :: st) M Q := w_bipush mC_203 d203_116 (by decide)
theorem d203_118 : decode cX12_deals 118 = .ok (.iload_n 1, 1) := by decide +kernel
theorem k203_118 {d : Nat} {x : Int32} {l0 l2 l3 l4 : Option PV} {st : List PV} {M : Mem} {Q : Option PV → Mem → Prop} : WP d 203 118 [l0, some (vi x), l2, l3, l4] (st) M Q = WP d 203 119 [l0, some (vi x), l2, l3, l4] (vi x :: st) M Q := w1 mC_203 d203_118 rfl rfl
theorem d203_119 : decode cX12_deals 119 = .ok (.imul, 1) := by decide +kernel
theorem k203_119 {d : Nat} {l0 l1 l2 l3 l4 : Option PV} {st : List PV} {M : Mem} {Q : Option PV → Mem → Prop} {x y : Int32} : WP d 203 119 [l0, l1, l2, l3, l4] (vi y :: vi x :: st) M Q = WP d 203 120 [l0, l1, l2, l3, l4] (vi (x * y) :: st) M Q := w1 mC_203 d203_119 rfl rfl
theorem d203_120 : decode cX12_deals 120 = .ok (.iload 4, 2) := by decide +kernel
theorem k203_120 {d : Nat} {x : Int32} {l0 l1 l2 l3 : Option PV} {st : List PV} {M : Mem} {Q : Option PV → Mem → Prop} : WP d 203 120 [l0, l1, l2, l3, some (vi x)] (st) M Q = WP d 203 122 [l0, l1, l2, l3, some (vi x)] (vi x :: st) M Q := w1 mC_203 d203_120 rfl rfl
theorem d203_122 : decode cX12_deals 122 = .ok (.iadd, 1) := by decide +kernel
theorem k203_122 {d : Nat} {l0 l1 l2 l3 l4 : Option PV} {st : List PV} {M : Mem} {Q : Option PV → Mem → Prop} {x y : Int32} : WP d 203 122 [l0, l1, l2, l3, l4] (vi y :: vi x :: st) M Q = WP d 203 123 [l0, l1, l2, l3, l4] (vi (x + y) :: st) M Q := w1 mC_203 d203_122 rfl rfl
theorem d203_123 : decode cX12_deals 123 = .ok (.iaload, 1) := by decide +kernel
theorem k203_123 {d : Nat} {l0 l1 l2 l3 l4 : Option PV} {st : List PV} {M : Mem} {Q : Option PV → Mem → Prop} {r : Nat} {j : Int32} (hk : mK M r = 13) (hj : inb j (mN M r)) (h1 : r ≠ 1) : WP d 203 123 [l0, l1, l2, l3, l4] (vi j :: vr r :: st) M Q = WP d 203 124 [l0, l1, l2, l3, l4] (vi (mI M r (ix j)) :: st) M Q := w_iald mC_203 d203_123 (by decide) hk hj h1
theorem d203_124 : decode cX12_deals 124 = .ok (.iadd, 1) := by decide +kernel
theorem k203_124 {d : Nat} {l0 l1 l2 l3 l4 : Option PV} {st : List PV} {M : Mem} {Q : Option PV → Mem → Prop} {x y : Int32} : WP d 203 124 [l0, l1, l2, l3, l4] (vi y :: vi x :: st) M Q = WP d 203 125 [l0, l1, l2, l3, l4] (vi (x + y) :: st) M Q := w1 mC_203 d203_124 rfl rfl
theorem d203_125 : decode cX12_deals 125 = .ok (.invokevirtual 299, 3) := by decide +kernel
theorem k203_125 {d : Nat} {l0 l1 l2 l3 l4 : Option PV} {st : List PV} {M : Mem} {Q : Option PV → Mem → Prop} {a0 a1 a2 : Int32} {r : Nat} (hl : szL st ≤ 8) (hk : mK M r = 12) : WP (d + 1) 203 125 [l0, l1, l2, l3, l4] (vi a2 :: vi a1 :: vi a0 :: vr r :: st) M Q = WP d 203 0 [some (vr r), some (vi a0), some (vi a1), some (vi a2), none] [] M (fun v M' => WP (d + 1) 203 128 [l0, l1, l2, l3, l4] (psh v st) M' Q) := w_callV mC_203 d203_125 (ci := 12) rfl rfl rfl (Nat.le_of_ble_eq_true rfl) (by decide) rfl hl hk
theorem d203_128 : decode cX12_deals 128 = .ok (.iinc 4 1, 3) := by decide +kernel
theorem k203_128 {d : Nat} {x : Int32} {l0 l1 l2 l3 : Option PV} {st : List PV} {M : Mem} {Q : Option PV → Mem → Prop} : WP d 203 128 [l0, l1, l2, l3, some (vi x)] (st) M Q = WP d 203 131 [l0, l1, l2, l3, some (vi (x + 1))] (st) M Q := w_iinc mC_203 d203_128 rfl (by decide) rfl
theorem d203_131 : decode cX12_deals 131 = .ok (.goto (-75), 3) := by decide +kernel
theorem k203_131 {d : Nat} {l0 l1 l2 l3 l4 : Option PV} {st : List PV} {M : Mem} {Q : Option PV → Mem → Prop} : WP d 203 131 [l0, l1, l2, l3, l4] (st) M Q = WP d 203 56 [l0, l1, l2, l3, l4] (st) M Q := w_goto mC_203 d203_131 (by decide)
theorem d203_134 : decode cX12_deals 134 = .ok (.aload_n 0, 1) := by decide +kernel
theorem k203_134 {d x : Nat} {l1 l2 l3 l4 : Option PV} {st : List PV} {M : Mem} {Q : Option PV → Mem → Prop} : WP d 203 134 [some (vr x), l1, l2, l3, l4] (st) M Q = WP d 203 135 [some (vr x), l1, l2, l3, l4] (vr x :: st) M Q := w1 mC_203 d203_134 rfl rfl
theorem d203_135 : decode cX12_deals 135 = .ok (.getfield 91, 3) := by decide +kernel
theorem k203_135 {d : Nat} {l0 l1 l2 l3 l4 : Option PV} {st : List PV} {M : Mem} {Q : Option PV → Mem → Prop} {r : Nat} (hk : mK M r = 12) : WP d 203 135 [l0, l1, l2, l3, l4] (vr r :: st) M Q = WP d 203 138 [l0, l1, l2, l3, l4] (vr (mR M r 44) :: st) M Q := w_getr mC_203 d203_135 fE_12_91 rfl (by rw [hk]; rfl)
theorem d203_138 : decode cX12_deals 138 = .ok (.iload_n 1, 1) := by decide +kernel
theorem k203_138 {d : Nat} {x : Int32} {l0 l2 l3 l4 : Option PV} {st : List PV} {M : Mem} {Q : Option PV → Mem → Prop} : WP d 203 138 [l0, some (vi x), l2, l3, l4] (st) M Q = WP d 203 139 [l0, some (vi x), l2, l3, l4] (vi x :: st) M Q := w1 mC_203 d203_138 rfl rfl
theorem d203_139 : decode cX12_deals 139 = .ok (.bipush 9, 2) := by decide +kernel
theorem k203_139 {d : Nat} {l0 l1 l2 l3 l4 : Option PV} {st : List PV} {M : Mem} {Q : Option PV → Mem → Prop} : WP d 203 139 [l0, l1, l2, l3, l4] (st) M Q = WP d 203 141 [l0, l1, l2, l3, l4] (vi 9 :: st) M Q := w_bipush mC_203 d203_139 (by decide)
theorem d203_141 : decode cX12_deals 141 = .ok (.iastore, 1) := by decide +kernel
theorem k203_141 {d : Nat} {l0 l1 l2 l3 l4 : Option PV} {st : List PV} {M : Mem} {Q : Option PV → Mem → Prop} {r : Nat} {j x : Int32} (hk : mK M r = 13) (hj : inb j (mN M r)) (h1 : r ≠ 1) : WP d 203 141 [l0, l1, l2, l3, l4] (vi x :: vi j :: vr r :: st) M Q = WP d 203 142 [l0, l1, l2, l3, l4] (st) (sI M r (ix j) x) Q := w_iast mC_203 d203_141 hk hj h1
theorem d203_142 : decode cX12_deals 142 = .ok (.aload_n 0, 1) := by decide +kernel
theorem k203_142 {d x : Nat} {l1 l2 l3 l4 : Option PV} {st : List PV} {M : Mem} {Q : Option PV → Mem → Prop} : WP d 203 142 [some (vr x), l1, l2, l3, l4] (st) M Q = WP d 203 143 [some (vr x), l1, l2, l3, l4] (vr x :: st) M Q := w1 mC_203 d203_142 rfl rfl
theorem d203_143 : decode cX12_deals 143 = .ok (.iload_n 1, 1) := by decide +kernel
theorem k203_143 {d : Nat} {x : Int32} {l0 l2 l3 l4 : Option PV} {st : List PV} {M : Mem} {Q : Option PV → Mem → Prop} : WP d 203 143 [l0, some (vi x), l2, l3, l4] (st) M Q = WP d 203 144 [l0, some (vi x), l2, l3, l4] (vi x :: st) M Q := w1 mC_203 d203_143 rfl rfl
theorem d203_144 : decode cX12_deals 144 = .ok (.iconst 1, 1) := by decide +kernel
theorem k203_144 {d : Nat} {l0 l1 l2 l3 l4 : Option PV} {st : List PV} {M : Mem} {Q : Option PV → Mem → Prop} : WP d 203 144 [l0, l1, l2, l3, l4] (st) M Q = WP d 203 145 [l0, l1, l2, l3, l4] (vi 1 :: st) M Q := w_iconst mC_203 d203_144 (by decide)
theorem d203_145 : decode cX12_deals 145 = .ok (.iadd, 1) := by decide +kernel
theorem k203_145 {d : Nat} {l0 l1 l2 l3 l4 : Option PV} {st : List PV} {M : Mem} {Q : Option PV → Mem → Prop} {x y : Int32} : WP d 203 145 [l0, l1, l2, l3, l4] (vi y :: vi x :: st) M Q = WP d 203 146 [l0, l1, l2, l3, l4] (vi (x + y) :: st) M Q := w1 mC_203 d203_145 rfl rfl
theorem d203_146 : decode cX12_deals 146 = .ok (.iload_n 2, 1) := by decide +kernel
theorem k203_146 {d : Nat} {x : Int32} {l0 l1 l3 l4 : Option PV} {st : List PV} {M : Mem} {Q : Option PV → Mem → Prop} : WP d 203 146 [l0, l1, some (vi x), l3, l4] (st) M Q = WP d 203 147 [l0, l1, some (vi x), l3, l4] (vi x :: st) M Q := w1 mC_203 d203_146 rfl rfl
theorem d203_147 : decode cX12_deals 147 = .ok (.iload_n 3, 1) := by decide +kernel
theorem k203_147 {d : Nat} {x : Int32} {l0 l1 l2 l4 : Option PV} {st : List PV} {M : Mem} {Q : Option PV → Mem → Prop} : WP d 203 147 [l0, l1, l2, some (vi x), l4] (st) M Q = WP d 203 148 [l0, l1, l2, some (vi x), l4] (vi x :: st) M Q := w1 mC_203 d203_147 rfl rfl
theorem d203_148 : decode cX12_deals 148 = .ok (.invokevirtual 299, 3) := by decide +kernel
theorem k203_148 {d : Nat} {l0 l1 l2 l3 l4 : Option PV} {st : List PV} {M : Mem} {Q : Option PV → Mem → Prop} {a0 a1 a2 : Int32} {r : Nat} (hl : szL st ≤ 8) (hk : mK M r = 12) : WP (d + 1) 203 148 [l0, l1, l2, l3, l4] (vi a2 :: vi a1 :: vi a0 :: vr r :: st) M Q = WP d 203 0 [some (vr r), some (vi a0), some (vi a1), some (vi a2), none] [] M (fun v M' => WP (d + 1) 203 151 [l0, l1, l2, l3, l4] (psh v st) M' Q) := w_callV mC_203 d203_148 (ci := 12) rfl rfl rfl (Nat.le_of_ble_eq_true rfl) (by decide) rfl hl hk
theorem d203_151 : decode cX12_deals 151 = .ok (.return_, 1) := by decide +kernel
theorem k203_151 {d : Nat} {l0 l1 l2 l3 l4 : Option PV} {M : Mem} {Q : Option PV → Mem → Prop} : WP d 203 151 [l0, l1, l2, l3, l4] ([]) M Q = Q none M := w_vret mC_203 d203_151 rfl
theorem d204_0 : decode cX12_dealt 0 = .ok (.iload_n 1, 1) := by decide +kernel
theorem k204_0 {d : Nat} {x : Int32} {l0 l2 l3 l4 : Option PV} {st : List PV} {M : Mem} {Q : Option PV → Mem → Prop} : WP d 204 0 [l0, some (vi x), l2, l3, l4] (st) M Q = WP d 204 1 [l0, some (vi x), l2, l3, l4] (vi x :: st) M Q := w1 mC_204 d204_0 rfl rfl
theorem d204_1 : decode cX12_dealt 1 = .ok (.iconst 1, 1) := by decide +kernel
theorem k204_1 {d : Nat} {l0 l1 l2 l3 l4 : Option PV} {st : List PV} {M : Mem} {Q : Option PV → Mem → Prop} : WP d 204 1 [l0, l1, l2, l3, l4] (st) M Q = WP d 204 2 [l0, l1, l2, l3, l4] (vi 1 :: st) M Q := w_iconst mC_204 d204_1 (by decide)
theorem d204_2 : decode cX12_dealt 2 = .ok (.bipush 99, 2) := by decide +kernel
theorem k204_2 {d : Nat} {l0 l1 l2 l3 l4 : Option PV} {st : List PV} {M : Mem} {Q : Option PV → Mem → Prop} : WP d 204 2 [l0, l1, l2, l3, l4] (st) M Q = WP d 204 4 [l0, l1, l2, l3, l4] (vi 99 :: st) M Q := w_bipush mC_204 d204_2 (by decide)
theorem d204_4 : decode cX12_dealt 4 = .ok (.invokestatic 104, 3) := by decide +kernel
theorem k204_4 {d : Nat} {l0 l1 l2 l3 l4 : Option PV} {st : List PV} {M : Mem} {Q : Option PV → Mem → Prop} {a0 a1 a2 : Int32} (hl : szL st ≤ 8) : WP (d + 1) 204 4 [l0, l1, l2, l3, l4] (vi a2 :: vi a1 :: vi a0 :: st) M Q = WP d 145 0 [some (vi a0), some (vi a1), some (vi a2)] [] M (fun v M' => WP (d + 1) 204 7 [l0, l1, l2, l3, l4] (psh v st) M' Q) := w_callS mC_204 d204_4 rfl rfl (Nat.le_of_ble_eq_true rfl) (by decide) rfl hl
theorem d204_7 : decode cX12_dealt 7 = .ok (.ifCond .eq 16, 3) := by decide +kernel
theorem k204_7 {d : Nat} {l0 l1 l2 l3 l4 : Option PV} {st : List PV} {M : Mem} {Q : Option PV → Mem → Prop} {x : Int32} : WP d 204 7 [l0, l1, l2, l3, l4] (vi x :: st) M Q = (if x = 0 then WP d 204 23 [l0, l1, l2, l3, l4] (st) M Q else WP d 204 10 [l0, l1, l2, l3, l4] (st) M Q) := w_if_eq mC_204 d204_7 (by decide)
theorem d204_10 : decode cX12_dealt 10 = .ok (.iload_n 2, 1) := by decide +kernel
theorem k204_10 {d : Nat} {x : Int32} {l0 l1 l3 l4 : Option PV} {st : List PV} {M : Mem} {Q : Option PV → Mem → Prop} : WP d 204 10 [l0, l1, some (vi x), l3, l4] (st) M Q = WP d 204 11 [l0, l1, some (vi x), l3, l4] (vi x :: st) M Q := w1 mC_204 d204_10 rfl rfl
theorem d204_11 : decode cX12_dealt 11 = .ok (.iconst (-1), 1) := by decide +kernel
theorem k204_11 {d : Nat} {l0 l1 l2 l3 l4 : Option PV} {st : List PV} {M : Mem} {Q : Option PV → Mem → Prop} : WP d 204 11 [l0, l1, l2, l3, l4] (st) M Q = WP d 204 12 [l0, l1, l2, l3, l4] (vi (-1) :: st) M Q := w_iconst mC_204 d204_11 (by decide)
theorem d204_12 : decode cX12_dealt 12 = .ok (.if_icmp .eq 13, 3) := by decide +kernel
theorem k204_12 {d : Nat} {l0 l1 l2 l3 l4 : Option PV} {st : List PV} {M : Mem} {Q : Option PV → Mem → Prop} {x y : Int32} : WP d 204 12 [l0, l1, l2, l3, l4] (vi y :: vi x :: st) M Q = (if x = y then WP d 204 25 [l0, l1, l2, l3, l4] (st) M Q else WP d 204 15 [l0, l1, l2, l3, l4] (st) M Q) := w_ic_eq mC_204 d204_12 (by decide)
theorem d204_15 : decode cX12_dealt 15 = .ok (.aload_n 0, 1) := by decide +kernel
theorem k204_15 {d x : Nat} {l1 l2 l3 l4 : Option PV} {st : List PV} {M : Mem} {Q : Option PV → Mem → Prop} : WP d 204 15 [some (vr x), l1, l2, l3, l4] (st) M Q = WP d 204 16 [some (vr x), l1, l2, l3, l4] (vr x :: st) M Q := w1 mC_204 d204_15 rfl rfl
theorem d204_16 : decode cX12_dealt 16 = .ok (.iload_n 2, 1) := by decide +kernel
theorem k204_16 {d : Nat} {x : Int32} {l0 l1 l3 l4 : Option PV} {st : List PV} {M : Mem} {Q : Option PV → Mem → Prop} : WP d 204 16 [l0, l1, some (vi x), l3, l4] (st) M Q = WP d 204 17 [l0, l1, some (vi x), l3, l4] (vi x :: st) M Q := w1 mC_204 d204_16 rfl rfl
theorem d204_17 : decode cX12_dealt 17 = .ok (.invokevirtual 119, 3) := by decide +kernel
theorem k204_17 {d : Nat} {l0 l1 l2 l3 l4 : Option PV} {st : List PV} {M : Mem} {Q : Option PV → Mem → Prop} {a0 : Int32} {r : Nat} (hl : szL st ≤ 8) (hk : mK M r = 12) : WP (d + 1) 204 17 [l0, l1, l2, l3, l4] (vi a0 :: vr r :: st) M Q = WP d 146 0 [some (vr r), some (vi a0)] [] M (fun v M' => WP (d + 1) 204 20 [l0, l1, l2, l3, l4] (psh v st) M' Q) := w_callV mC_204 d204_17 (ci := 12) rfl rfl rfl (Nat.le_of_ble_eq_true rfl) (by decide) rfl hl hk
theorem d204_20 : decode cX12_dealt 20 = .ok (.ifCond .ne 5, 3) := by decide +kernel
theorem k204_20 {d : Nat} {l0 l1 l2 l3 l4 : Option PV} {st : List PV} {M : Mem} {Q : Option PV → Mem → Prop} {x : Int32} : WP d 204 20 [l0, l1, l2, l3, l4] (vi x :: st) M Q = (if x = 0 then WP d 204 23 [l0, l1, l2, l3, l4] (st) M Q else WP d 204 25 [l0, l1, l2, l3, l4] (st) M Q) := w_if_ne mC_204 d204_20 (by decide)
theorem d204_23 : decode cX12_dealt 23 = .ok (.iconst (-1), 1) := by decide +kernel
theorem k204_23 {d : Nat} {l0 l1 l2 l3 l4 : Option PV} {st : List PV} {M : Mem} {Q : Option PV → Mem → Prop} : WP d 204 23 [l0, l1, l2, l3, l4] (st) M Q = WP d 204 24 [l0, l1, l2, l3, l4] (vi (-1) :: st) M Q := w_iconst mC_204 d204_23 (by decide)
theorem d204_24 : decode cX12_dealt 24 = .ok (.ireturn, 1) := by decide +kernel
theorem k204_24 {d : Nat} {l0 l1 l2 l3 l4 : Option PV} {M : Mem} {Q : Option PV → Mem → Prop} {x : Int32} : WP d 204 24 [l0, l1, l2, l3, l4] ([vi x]) M Q = Q (some (vi x)) M := w_iret mC_204 d204_24 rfl
theorem d204_25 : decode cX12_dealt 25 = .ok (.iconst 0, 1) := by decide +kernel
theorem k204_25 {d : Nat} {l0 l1 l2 l3 l4 : Option PV} {st : List PV} {M : Mem} {Q : Option PV → Mem → Prop} : WP d 204 25 [l0, l1, l2, l3, l4] (st) M Q = WP d 204 26 [l0, l1, l2, l3, l4] (vi 0 :: st) M Q := w_iconst mC_204 d204_25 (by decide)
theorem d204_26 : decode cX12_dealt 26 = .ok (.istore_n 3, 1) := by decide +kernel
theorem k204_26 {d : Nat} {l0 l1 l2 l3 l4 : Option PV} {st : List PV} {M : Mem} {Q : Option PV → Mem → Prop} {x : Int32} : WP d 204 26 [l0, l1, l2, l3, l4] (vi x :: st) M Q = WP d 204 27 [l0, l1, l2, some (vi x), l4] (st) M Q := w1 mC_204 d204_26 rfl rfl
theorem d204_27 : decode cX12_dealt 27 = .ok (.iload_n 3, 1) := by decide +kernel
theorem k204_27 {d : Nat} {x : Int32} {l0 l1 l2 l4 : Option PV} {st : List PV} {M : Mem} {Q : Option PV → Mem → Prop} : WP d 204 27 [l0, l1, l2, some (vi x), l4] (st) M Q = WP d 204 28 [l0, l1, l2, some (vi x), l4] (vi x :: st) M Q := w1 mC_204 d204_27 rfl rfl
theorem d204_28 : decode cX12_dealt 28 = .ok (.aload_n 0, 1) := by decide +kernel
theorem k204_28 {d x : Nat} {l1 l2 l3 l4 : Option PV} {st : List PV} {M : Mem} {Q : Option PV → Mem → Prop} : WP d 204 28 [some (vr x), l1, l2, l3, l4] (st) M Q = WP d 204 29 [some (vr x), l1, l2, l3, l4] (vr x :: st) M Q := w1 mC_204 d204_28 rfl rfl
theorem d204_29 : decode cX12_dealt 29 = .ok (.getfield 100, 3) := by decide +kernel
theorem k204_29 {d : Nat} {l0 l1 l2 l3 l4 : Option PV} {st : List PV} {M : Mem} {Q : Option PV → Mem → Prop} {r : Nat} (hk : mK M r = 12) : WP d 204 29 [l0, l1, l2, l3, l4] (vr r :: st) M Q = WP d 204 32 [l0, l1, l2, l3, l4] (vi (mI M r 0) :: st) M Q := w_get mC_204 d204_29 fE_12_100 rfl (by rw [hk]; rfl)
theorem d204_32 : decode cX12_dealt 32 = .ok (.if_icmp .ge 53, 3) := by decide +kernel
theorem k204_32 {d : Nat} {l0 l1 l2 l3 l4 : Option PV} {st : List PV} {M : Mem} {Q : Option PV → Mem → Prop} {x y : Int32} : WP d 204 32 [l0, l1, l2, l3, l4] (vi y :: vi x :: st) M Q = (if y ≤ x then WP d 204 85 [l0, l1, l2, l3, l4] (st) M Q else WP d 204 35 [l0, l1, l2, l3, l4] (st) M Q) := w_ic_ge mC_204 d204_32 (by decide)
theorem d204_35 : decode cX12_dealt 35 = .ok (.iconst 0, 1) := by decide +kernel
theorem k204_35 {d : Nat} {l0 l1 l2 l3 l4 : Option PV} {st : List PV} {M : Mem} {Q : Option PV → Mem → Prop} : WP d 204 35 [l0, l1, l2, l3, l4] (st) M Q = WP d 204 36 [l0, l1, l2, l3, l4] (vi 0 :: st) M Q := w_iconst mC_204 d204_35 (by decide)
theorem d204_36 : decode cX12_dealt 36 = .ok (.istore 4, 2) := by decide +kernel
theorem k204_36 {d : Nat} {l0 l1 l2 l3 l4 : Option PV} {st : List PV} {M : Mem} {Q : Option PV → Mem → Prop} {x : Int32} : WP d 204 36 [l0, l1, l2, l3, l4] (vi x :: st) M Q = WP d 204 38 [l0, l1, l2, l3, some (vi x)] (st) M Q := w1 mC_204 d204_36 rfl rfl
theorem d204_38 : decode cX12_dealt 38 = .ok (.iload 4, 2) := by decide +kernel
theorem k204_38 {d : Nat} {x : Int32} {l0 l1 l2 l3 : Option PV} {st : List PV} {M : Mem} {Q : Option PV → Mem → Prop} : WP d 204 38 [l0, l1, l2, l3, some (vi x)] (st) M Q = WP d 204 40 [l0, l1, l2, l3, some (vi x)] (vi x :: st) M Q := w1 mC_204 d204_38 rfl rfl
theorem d204_40 : decode cX12_dealt 40 = .ok (.aload_n 0, 1) := by decide +kernel
theorem k204_40 {d x : Nat} {l1 l2 l3 l4 : Option PV} {st : List PV} {M : Mem} {Q : Option PV → Mem → Prop} : WP d 204 40 [some (vr x), l1, l2, l3, l4] (st) M Q = WP d 204 41 [some (vr x), l1, l2, l3, l4] (vr x :: st) M Q := w1 mC_204 d204_40 rfl rfl
theorem d204_41 : decode cX12_dealt 41 = .ok (.getfield 108, 3) := by decide +kernel
theorem k204_41 {d : Nat} {l0 l1 l2 l3 l4 : Option PV} {st : List PV} {M : Mem} {Q : Option PV → Mem → Prop} {r : Nat} (hk : mK M r = 12) : WP d 204 41 [l0, l1, l2, l3, l4] (vr r :: st) M Q = WP d 204 44 [l0, l1, l2, l3, l4] (vi (mI M r 1) :: st) M Q := w_get mC_204 d204_41 fE_12_108 rfl (by rw [hk]; rfl)
theorem d204_44 : decode cX12_dealt 44 = .ok (.if_icmp .ge 35, 3) := by decide +kernel
theorem k204_44 {d : Nat} {l0 l1 l2 l3 l4 : Option PV} {st : List PV} {M : Mem} {Q : Option PV → Mem → Prop} {x y : Int32} : WP d 204 44 [l0, l1, l2, l3, l4] (vi y :: vi x :: st) M Q = (if y ≤ x then WP d 204 79 [l0, l1, l2, l3, l4] (st) M Q else WP d 204 47 [l0, l1, l2, l3, l4] (st) M Q) := w_ic_ge mC_204 d204_44 (by decide)
theorem d204_47 : decode cX12_dealt 47 = .ok (.aload_n 0, 1) := by decide +kernel
theorem k204_47 {d x : Nat} {l1 l2 l3 l4 : Option PV} {st : List PV} {M : Mem} {Q : Option PV → Mem → Prop} : WP d 204 47 [some (vr x), l1, l2, l3, l4] (st) M Q = WP d 204 48 [some (vr x), l1, l2, l3, l4] (vr x :: st) M Q := w1 mC_204 d204_47 rfl rfl
theorem d204_48 : decode cX12_dealt 48 = .ok (.iload_n 3, 1) := by decide +kernel
theorem k204_48 {d : Nat} {x : Int32} {l0 l1 l2 l4 : Option PV} {st : List PV} {M : Mem} {Q : Option PV → Mem → Prop} : WP d 204 48 [l0, l1, l2, some (vi x), l4] (st) M Q = WP d 204 49 [l0, l1, l2, some (vi x), l4] (vi x :: st) M Q := w1 mC_204 d204_48 rfl rfl
theorem d204_49 : decode cX12_dealt 49 = .ok (.iload 4, 2) := by decide +kernel
theorem k204_49 {d : Nat} {x : Int32} {l0 l1 l2 l3 : Option PV} {st : List PV} {M : Mem} {Q : Option PV → Mem → Prop} : WP d 204 49 [l0, l1, l2, l3, some (vi x)] (st) M Q = WP d 204 51 [l0, l1, l2, l3, some (vi x)] (vi x :: st) M Q := w1 mC_204 d204_49 rfl rfl
theorem d204_51 : decode cX12_dealt 51 = .ok (.iload_n 1, 1) := by decide +kernel
theorem k204_51 {d : Nat} {x : Int32} {l0 l2 l3 l4 : Option PV} {st : List PV} {M : Mem} {Q : Option PV → Mem → Prop} : WP d 204 51 [l0, some (vi x), l2, l3, l4] (st) M Q = WP d 204 52 [l0, some (vi x), l2, l3, l4] (vi x :: st) M Q := w1 mC_204 d204_51 rfl rfl
theorem d204_52 : decode cX12_dealt 52 = .ok (.invokevirtual 293, 3) := by decide +kernel
theorem k204_52 {d : Nat} {l0 l1 l2 l3 l4 : Option PV} {st : List PV} {M : Mem} {Q : Option PV → Mem → Prop} {a0 a1 a2 : Int32} {r : Nat} (hl : szL st ≤ 8) (hk : mK M r = 12) : WP (d + 1) 204 52 [l0, l1, l2, l3, l4] (vi a2 :: vi a1 :: vi a0 :: vr r :: st) M Q = WP d 199 0 [some (vr r), some (vi a0), some (vi a1), some (vi a2), none, none] [] M (fun v M' => WP (d + 1) 204 55 [l0, l1, l2, l3, l4] (psh v st) M' Q) := w_callV mC_204 d204_52 (ci := 12) rfl rfl rfl (Nat.le_of_ble_eq_true rfl) (by decide) rfl hl hk
theorem d204_55 : decode cX12_dealt 55 = .ok (.aload_n 0, 1) := by decide +kernel
theorem k204_55 {d x : Nat} {l1 l2 l3 l4 : Option PV} {st : List PV} {M : Mem} {Q : Option PV → Mem → Prop} : WP d 204 55 [some (vr x), l1, l2, l3, l4] (st) M Q = WP d 204 56 [some (vr x), l1, l2, l3, l4] (vr x :: st) M Q := w1 mC_204 d204_55 rfl rfl
theorem d204_56 : decode cX12_dealt 56 = .ok (.getfield 88, 3) := by decide +kernel
theorem k204_56 {d : Nat} {l0 l1 l2 l3 l4 : Option PV} {st : List PV} {M : Mem} {Q : Option PV → Mem → Prop} {r : Nat} (hk : mK M r = 12) : WP d 204 56 [l0, l1, l2, l3, l4] (vr r :: st) M Q = WP d 204 59 [l0, l1, l2, l3, l4] (vr (mR M r 43) :: st) M Q := w_getr mC_204 d204_56 fE_12_88 rfl (by rw [hk]; rfl)
theorem d204_59 : decode cX12_dealt 59 = .ok (.bipush 8, 2) := by decide +kernel
theorem k204_59 {d : Nat} {l0 l1 l2 l3 l4 : Option PV} {st : List PV} {M : Mem} {Q : Option PV → Mem → Prop} : WP d 204 59 [l0, l1, l2, l3, l4] (st) M Q = WP d 204 61 [l0, l1, l2, l3, l4] (vi 8 :: st) M Q := w_bipush mC_204 d204_59 (by decide)
theorem d204_61 : decode cX12_dealt 61 = .ok (.iload_n 3, 1) := by decide +kernel
theorem k204_61 {d : Nat} {x : Int32} {l0 l1 l2 l4 : Option PV} {st : List PV} {M : Mem} {Q : Option PV → Mem → Prop} : WP d 204 61 [l0, l1, l2, some (vi x), l4] (st) M Q = WP d 204 62 [l0, l1, l2, some (vi x), l4] (vi x :: st) M Q := w1 mC_204 d204_61 rfl rfl
theorem d204_62 : decode cX12_dealt 62 = .ok (.imul, 1) := by decide +kernel
theorem k204_62 {d : Nat} {l0 l1 l2 l3 l4 : Option PV} {st : List PV} {M : Mem} {Q : Option PV → Mem → Prop} {x y : Int32} : WP d 204 62 [l0, l1, l2, l3, l4] (vi y :: vi x :: st) M Q = WP d 204 63 [l0, l1, l2, l3, l4] (vi (x * y) :: st) M Q := w1 mC_204 d204_62 rfl rfl
theorem d204_63 : decode cX12_dealt 63 = .ok (.iload 4, 2) := by decide +kernel
theorem k204_63 {d : Nat} {x : Int32} {l0 l1 l2 l3 : Option PV} {st : List PV} {M : Mem} {Q : Option PV → Mem → Prop} : WP d 204 63 [l0, l1, l2, l3, some (vi x)] (st) M Q = WP d 204 65 [l0, l1, l2, l3, some (vi x)] (vi x :: st) M Q := w1 mC_204 d204_63 rfl rfl
theorem d204_65 : decode cX12_dealt 65 = .ok (.iadd, 1) := by decide +kernel
theorem k204_65 {d : Nat} {l0 l1 l2 l3 l4 : Option PV} {st : List PV} {M : Mem} {Q : Option PV → Mem → Prop} {x y : Int32} : WP d 204 65 [l0, l1, l2, l3, l4] (vi y :: vi x :: st) M Q = WP d 204 66 [l0, l1, l2, l3, l4] (vi (x + y) :: st) M Q := w1 mC_204 d204_65 rfl rfl
theorem d204_66 : decode cX12_dealt 66 = .ok (.aload_n 0, 1) := by decide +kernel
theorem k204_66 {d x : Nat} {l1 l2 l3 l4 : Option PV} {st : List PV} {M : Mem} {Q : Option PV → Mem → Prop} : WP d 204 66 [some (vr x), l1, l2, l3, l4] (st) M Q = WP d 204 67 [some (vr x), l1, l2, l3, l4] (vr x :: st) M Q := w1 mC_204 d204_66 rfl rfl
theorem d204_67 : decode cX12_dealt 67 = .ok (.getfield 85, 3) := by decide +kernel
theorem k204_67 {d : Nat} {l0 l1 l2 l3 l4 : Option PV} {st : List PV} {M : Mem} {Q : Option PV → Mem → Prop} {r : Nat} (hk : mK M r = 12) : WP d 204 67 [l0, l1, l2, l3, l4] (vr r :: st) M Q = WP d 204 70 [l0, l1, l2, l3, l4] (vr (mR M r 42) :: st) M Q := w_getr mC_204 d204_67 fE_12_85 rfl (by rw [hk]; rfl)
theorem d204_70 : decode cX12_dealt 70 = .ok (.iconst 0, 1) := by decide +kernel
theorem k204_70 {d : Nat} {l0 l1 l2 l3 l4 : Option PV} {st : List PV} {M : Mem} {Q : Option PV → Mem → Prop} : WP d 204 70 [l0, l1, l2, l3, l4] (st) M Q = WP d 204 71 [l0, l1, l2, l3, l4] (vi 0 :: st) M Q := w_iconst mC_204 d204_70 (by decide)
theorem d204_71 : decode cX12_dealt 71 = .ok (.iaload, 1) := by decide +kernel
theorem k204_71 {d : Nat} {l0 l1 l2 l3 l4 : Option PV} {st : List PV} {M : Mem} {Q : Option PV → Mem → Prop} {r : Nat} {j : Int32} (hk : mK M r = 13) (hj : inb j (mN M r)) (h1 : r ≠ 1) : WP d 204 71 [l0, l1, l2, l3, l4] (vi j :: vr r :: st) M Q = WP d 204 72 [l0, l1, l2, l3, l4] (vi (mI M r (ix j)) :: st) M Q := w_iald mC_204 d204_71 (by decide) hk hj h1
theorem d204_72 : decode cX12_dealt 72 = .ok (.iastore, 1) := by decide +kernel
theorem k204_72 {d : Nat} {l0 l1 l2 l3 l4 : Option PV} {st : List PV} {M : Mem} {Q : Option PV → Mem → Prop} {r : Nat} {j x : Int32} (hk : mK M r = 13) (hj : inb j (mN M r)) (h1 : r ≠ 1) : WP d 204 72 [l0, l1, l2, l3, l4] (vi x :: vi j :: vr r :: st) M Q = WP d 204 73 [l0, l1, l2, l3, l4] (st) (sI M r (ix j) x) Q := w_iast mC_204 d204_72 hk hj h1
theorem d204_73 : decode cX12_dealt 73 = .ok (.iinc 4 1, 3) := by decide +kernel
theorem k204_73 {d : Nat} {x : Int32} {l0 l1 l2 l3 : Option PV} {st : List PV} {M : Mem} {Q : Option PV → Mem → Prop} : WP d 204 73 [l0, l1, l2, l3, some (vi x)] (st) M Q = WP d 204 76 [l0, l1, l2, l3, some (vi (x + 1))] (st) M Q := w_iinc mC_204 d204_73 rfl (by decide) rfl
theorem d204_76 : decode cX12_dealt 76 = .ok (.goto (-38), 3) := by decide +kernel
theorem k204_76 {d : Nat} {l0 l1 l2 l3 l4 : Option PV} {st : List PV} {M : Mem} {Q : Option PV → Mem → Prop} : WP d 204 76 [l0, l1, l2, l3, l4] (st) M Q = WP d 204 38 [l0, l1, l2, l3, l4] (st) M Q := w_goto mC_204 d204_76 (by decide)
theorem d204_79 : decode cX12_dealt 79 = .ok (.iinc 3 1, 3) := by decide +kernel
theorem k204_79 {d : Nat} {x : Int32} {l0 l1 l2 l4 : Option PV} {st : List PV} {M : Mem} {Q : Option PV → Mem → Prop} : WP d 204 79 [l0, l1, l2, some (vi x), l4] (st) M Q = WP d 204 82 [l0, l1, l2, some (vi (x + 1)), l4] (st) M Q := w_iinc mC_204 d204_79 rfl (by decide) rfl
theorem d204_82 : decode cX12_dealt 82 = .ok (.goto (-55), 3) := by decide +kernel
theorem k204_82 {d : Nat} {l0 l1 l2 l3 l4 : Option PV} {st : List PV} {M : Mem} {Q : Option PV → Mem → Prop} : WP d 204 82 [l0, l1, l2, l3, l4] (st) M Q = WP d 204 27 [l0, l1, l2, l3, l4] (st) M Q := w_goto mC_204 d204_82 (by decide)
theorem d204_85 : decode cX12_dealt 85 = .ok (.aload_n 0, 1) := by decide +kernel
theorem k204_85 {d x : Nat} {l1 l2 l3 l4 : Option PV} {st : List PV} {M : Mem} {Q : Option PV → Mem → Prop} : WP d 204 85 [some (vr x), l1, l2, l3, l4] (st) M Q = WP d 204 86 [some (vr x), l1, l2, l3, l4] (vr x :: st) M Q := w1 mC_204 d204_85 rfl rfl
theorem d204_86 : decode cX12_dealt 86 = .ok (.iconst (-1), 1) := by decide +kernel
theorem k204_86 {d : Nat} {l0 l1 l2 l3 l4 : Option PV} {st : List PV} {M : Mem} {Q : Option PV → Mem → Prop} : WP d 204 86 [l0, l1, l2, l3, l4] (st) M Q = WP d 204 87 [l0, l1, l2, l3, l4] (vi (-1) :: st) M Q := w_iconst mC_204 d204_86 (by decide)
theorem d204_87 : decode cX12_dealt 87 = .ok (.putfield 296, 3) := by decide +kernel
theorem k204_87 {d : Nat} {l0 l1 l2 l3 l4 : Option PV} {st : List PV} {M : Mem} {Q : Option PV → Mem → Prop} {r : Nat} {x : Int32} (hk : mK M r = 12) : WP d 204 87 [l0, l1, l2, l3, l4] (vi x :: vr r :: st) M Q = WP d 204 90 [l0, l1, l2, l3, l4] (st) (sI M r 46 x) Q := w_put mC_204 d204_87 fE_12_296 (by decide +kernel) (by rw [hk]; rfl)
theorem d204_90 : decode cX12_dealt 90 = .ok (.aload_n 0, 1) := by decide +kernel
theorem k204_90 {d x : Nat} {l1 l2 l3 l4 : Option PV} {st : List PV} {M : Mem} {Q : Option PV → Mem → Prop} : WP d 204 90 [some (vr x), l1, l2, l3, l4] (st) M Q = WP d 204 91 [some (vr x), l1, l2, l3, l4] (vr x :: st) M Q := w1 mC_204 d204_90 rfl rfl
theorem d204_91 : decode cX12_dealt 91 = .ok (.iconst 0, 1) := by decide +kernel
theorem k204_91 {d : Nat} {l0 l1 l2 l3 l4 : Option PV} {st : List PV} {M : Mem} {Q : Option PV → Mem → Prop} : WP d 204 91 [l0, l1, l2, l3, l4] (st) M Q = WP d 204 92 [l0, l1, l2, l3, l4] (vi 0 :: st) M Q := w_iconst mC_204 d204_91 (by decide)
theorem d204_92 : decode cX12_dealt 92 = .ok (.iconst 0, 1) := by decide +kernel
theorem k204_92 {d : Nat} {l0 l1 l2 l3 l4 : Option PV} {st : List PV} {M : Mem} {Q : Option PV → Mem → Prop} : WP d 204 92 [l0, l1, l2, l3, l4] (st) M Q = WP d 204 93 [l0, l1, l2, l3, l4] (vi 0 :: st) M Q := w_iconst mC_204 d204_92 (by decide)
theorem d204_93 : decode cX12_dealt 93 = .ok (.iconst 0, 1) := by decide +kernel
theorem k204_93 {d : Nat} {l0 l1 l2 l3 l4 : Option PV} {st : List PV} {M : Mem} {Q : Option PV → Mem → Prop} : WP d 204 93 [l0, l1, l2, l3, l4] (st) M Q = WP d 204 94 [l0, l1, l2, l3, l4] (vi 0 :: st) M Q := w_iconst mC_204 d204_93 (by decide)
theorem d204_94 : decode cX12_dealt 94 = .ok (.invokevirtual 299, 3) := by decide +kernel
theorem k204_94 {d : Nat} {l0 l1 l2 l3 l4 : Option PV} {st : List PV} {M : Mem} {Q : Option PV → Mem → Prop} {a0 a1 a2 : Int32} {r : Nat} (hl : szL st ≤ 8) (hk : mK M r = 12) : WP (d + 1) 204 94 [l0, l1, l2, l3, l4] (vi a2 :: vi a1 :: vi a0 :: vr r :: st) M Q = WP d 203 0 [some (vr r), some (vi a0), some (vi a1), some (vi a2), none] [] M (fun v M' => WP (d + 1) 204 97 [l0, l1, l2, l3, l4] (psh v st) M' Q) := w_callV mC_204 d204_94 (ci := 12) rfl rfl rfl (Nat.le_of_ble_eq_true rfl) (by decide) rfl hl hk
theorem d204_97 : decode cX12_dealt 97 = .ok (.iload_n 2, 1) := by decide +kernel
theorem k204_97 {d : Nat} {x : Int32} {l0 l1 l3 l4 : Option PV} {st : List PV} {M : Mem} {Q : Option PV → Mem → Prop} : WP d 204 97 [l0, l1, some (vi x), l3, l4] (st) M Q = WP d 204 98 [l0, l1, some (vi x), l3, l4] (vi x :: st) M Q := w1 mC_204 d204_97 rfl rfl
theorem d204_98 : decode cX12_dealt 98 = .ok (.iconst (-1), 1) := by decide +kernel
theorem k204_98 {d : Nat} {l0 l1 l2 l3 l4 : Option PV} {st : List PV} {M : Mem} {Q : Option PV → Mem → Prop} : WP d 204 98 [l0, l1, l2, l3, l4] (st) M Q = WP d 204 99 [l0, l1, l2, l3, l4] (vi (-1) :: st) M Q := w_iconst mC_204 d204_98 (by decide)
theorem d204_99 : decode cX12_dealt 99 = .ok (.if_icmp .ne 10, 3) := by decide +kernel
theorem k204_99 {d : Nat} {l0 l1 l2 l3 l4 : Option PV} {st : List PV} {M : Mem} {Q : Option PV → Mem → Prop} {x y : Int32} : WP d 204 99 [l0, l1, l2, l3, l4] (vi y :: vi x :: st) M Q = (if x = y then WP d 204 102 [l0, l1, l2, l3, l4] (st) M Q else WP d 204 109 [l0, l1, l2, l3, l4] (st) M Q) := w_ic_ne mC_204 d204_99 (by decide)
theorem d204_102 : decode cX12_dealt 102 = .ok (.aload_n 0, 1) := by decide +kernel
theorem k204_102 {d x : Nat} {l1 l2 l3 l4 : Option PV} {st : List PV} {M : Mem} {Q : Option PV → Mem → Prop} : WP d 204 102 [some (vr x), l1, l2, l3, l4] (st) M Q = WP d 204 103 [some (vr x), l1, l2, l3, l4] (vr x :: st) M Q := w1 mC_204 d204_102 rfl rfl
theorem d204_103 : decode cX12_dealt 103 = .ok (.getfield 296, 3) := by decide +kernel
theorem k204_103 {d : Nat} {l0 l1 l2 l3 l4 : Option PV} {st : List PV} {M : Mem} {Q : Option PV → Mem → Prop} {r : Nat} (hk : mK M r = 12) : WP d 204 103 [l0, l1, l2, l3, l4] (vr r :: st) M Q = WP d 204 106 [l0, l1, l2, l3, l4] (vi (mI M r 46) :: st) M Q := w_get mC_204 d204_103 fE_12_296 rfl (by rw [hk]; rfl)
theorem d204_106 : decode cX12_dealt 106 = .ok (.goto 9, 3) := by decide +kernel
theorem k204_106 {d : Nat} {l0 l1 l2 l3 l4 : Option PV} {st : List PV} {M : Mem} {Q : Option PV → Mem → Prop} : WP d 204 106 [l0, l1, l2, l3, l4] (st) M Q = WP d 204 115 [l0, l1, l2, l3, l4] (st) M Q := w_goto mC_204 d204_106 (by decide)
theorem d204_109 : decode cX12_dealt 109 = .ok (.aload_n 0, 1) := by decide +kernel
theorem k204_109 {d x : Nat} {l1 l2 l3 l4 : Option PV} {st : List PV} {M : Mem} {Q : Option PV → Mem → Prop} : WP d 204 109 [some (vr x), l1, l2, l3, l4] (st) M Q = WP d 204 110 [some (vr x), l1, l2, l3, l4] (vr x :: st) M Q := w1 mC_204 d204_109 rfl rfl
theorem d204_110 : decode cX12_dealt 110 = .ok (.getfield 94, 3) := by decide +kernel
theorem k204_110 {d : Nat} {l0 l1 l2 l3 l4 : Option PV} {st : List PV} {M : Mem} {Q : Option PV → Mem → Prop} {r : Nat} (hk : mK M r = 12) : WP d 204 110 [l0, l1, l2, l3, l4] (vr r :: st) M Q = WP d 204 113 [l0, l1, l2, l3, l4] (vr (mR M r 45) :: st) M Q := w_getr mC_204 d204_110 fE_12_94 rfl (by rw [hk]; rfl)
theorem d204_113 : decode cX12_dealt 113 = .ok (.iload_n 2, 1) := by decide +kernel
theorem k204_113 {d : Nat} {x : Int32} {l0 l1 l3 l4 : Option PV} {st : List PV} {M : Mem} {Q : Option PV → Mem → Prop} : WP d 204 113 [l0, l1, some (vi x), l3, l4] (st) M Q = WP d 204 114 [l0, l1, some (vi x), l3, l4] (vi x :: st) M Q := w1 mC_204 d204_113 rfl rfl
theorem d204_114 : decode cX12_dealt 114 = .ok (.iaload, 1) := by decide +kernel
theorem k204_114 {d : Nat} {l0 l1 l2 l3 l4 : Option PV} {st : List PV} {M : Mem} {Q : Option PV → Mem → Prop} {r : Nat} {j : Int32} (hk : mK M r = 13) (hj : inb j (mN M r)) (h1 : r ≠ 1) : WP d 204 114 [l0, l1, l2, l3, l4] (vi j :: vr r :: st) M Q = WP d 204 115 [l0, l1, l2, l3, l4] (vi (mI M r (ix j)) :: st) M Q := w_iald mC_204 d204_114 (by decide) hk hj h1
theorem d204_115 : decode cX12_dealt 115 = .ok (.ireturn, 1) := by decide +kernel
theorem k204_115 {d : Nat} {l0 l1 l2 l3 l4 : Option PV} {M : Mem} {Q : Option PV → Mem → Prop} {x : Int32} : WP d 204 115 [l0, l1, l2, l3, l4] ([vi x]) M Q = Q (some (vi x)) M := w_iret mC_204 d204_115 rfl
theorem d205_0 : decode cX12_heldBehind 0 = .ok (.iload_n 1, 1) := by decide +kernel
theorem k205_0 {d : Nat} {x : Int32} {l0 l2 l3 l4 l5 : Option PV} {st : List PV} {M : Mem} {Q : Option PV → Mem → Prop} : WP d 205 0 [l0, some (vi x), l2, l3, l4, l5] (st) M Q = WP d 205 1 [l0, some (vi x), l2, l3, l4, l5] (vi x :: st) M Q := w1 mC_205 d205_0 rfl rfl
theorem d205_1 : decode cX12_heldBehind 1 = .ok (.bipush 10, 2) := by decide +kernel
theorem k205_1 {d : Nat} {l0 l1 l2 l3 l4 l5 : Option PV} {st : List PV} {M : Mem} {Q : Option PV → Mem → Prop} : WP d 205 1 [l0, l1, l2, l3, l4, l5] (st) M Q = WP d 205 3 [l0, l1, l2, l3, l4, l5] (vi 10 :: st) M Q := w_bipush mC_205 d205_1 (by decide)
theorem d205_3 : decode cX12_heldBehind 3 = .ok (.irem, 1) := by decide +kernel
theorem k205_3 {d : Nat} {l0 l1 l2 l3 l4 l5 : Option PV} {st : List PV} {M : Mem} {Q : Option PV → Mem → Prop} {x y : Int32} (h : y ≠ 0) : WP d 205 3 [l0, l1, l2, l3, l4, l5] (vi y :: vi x :: st) M Q = WP d 205 4 [l0, l1, l2, l3, l4, l5] (vi (x % y) :: st) M Q := w_rem mC_205 d205_3 h
theorem d205_4 : decode cX12_heldBehind 4 = .ok (.istore 4, 2) := by decide +kernel
theorem k205_4 {d : Nat} {l0 l1 l2 l3 l4 l5 : Option PV} {st : List PV} {M : Mem} {Q : Option PV → Mem → Prop} {x : Int32} : WP d 205 4 [l0, l1, l2, l3, l4, l5] (vi x :: st) M Q = WP d 205 6 [l0, l1, l2, l3, some (vi x), l5] (st) M Q := w1 mC_205 d205_4 rfl rfl
theorem d205_6 : decode cX12_heldBehind 6 = .ok (.aload_n 0, 1) := by decide +kernel
theorem k205_6 {d x : Nat} {l1 l2 l3 l4 l5 : Option PV} {st : List PV} {M : Mem} {Q : Option PV → Mem → Prop} : WP d 205 6 [some (vr x), l1, l2, l3, l4, l5] (st) M Q = WP d 205 7 [some (vr x), l1, l2, l3, l4, l5] (vr x :: st) M Q := w1 mC_205 d205_6 rfl rfl
theorem d205_7 : decode cX12_heldBehind 7 = .ok (.aload_n 0, 1) := by decide +kernel
theorem k205_7 {d x : Nat} {l1 l2 l3 l4 l5 : Option PV} {st : List PV} {M : Mem} {Q : Option PV → Mem → Prop} : WP d 205 7 [some (vr x), l1, l2, l3, l4, l5] (st) M Q = WP d 205 8 [some (vr x), l1, l2, l3, l4, l5] (vr x :: st) M Q := w1 mC_205 d205_7 rfl rfl
theorem d205_8 : decode cX12_heldBehind 8 = .ok (.getfield 79, 3) := by decide +kernel
theorem k205_8 {d : Nat} {l0 l1 l2 l3 l4 l5 : Option PV} {st : List PV} {M : Mem} {Q : Option PV → Mem → Prop} {r : Nat} (hk : mK M r = 12) : WP d 205 8 [l0, l1, l2, l3, l4, l5] (vr r :: st) M Q = WP d 205 11 [l0, l1, l2, l3, l4, l5] (vr (mR M r 40) :: st) M Q := w_getr mC_205 d205_8 fE_12_79 rfl (by rw [hk]; rfl)
theorem d205_11 : decode cX12_heldBehind 11 = .ok (.invokevirtual 272, 3) := by decide +kernel
theorem k205_11 {d : Nat} {l0 l1 l2 l3 l4 l5 : Option PV} {st : List PV} {M : Mem} {Q : Option PV → Mem → Prop} {a0 : Nat} {r : Nat} (hl : szL st ≤ 8) (hk : mK M r = 12) : WP (d + 1) 205 11 [l0, l1, l2, l3, l4, l5] (vr a0 :: vr r :: st) M Q = WP d 190 0 [some (vr r), some (vr a0), none] [] M (fun v M' => WP (d + 1) 205 14 [l0, l1, l2, l3, l4, l5] (psh v st) M' Q) := w_callV mC_205 d205_11 (ci := 12) rfl rfl rfl (Nat.le_of_ble_eq_true rfl) (by decide) rfl hl hk
theorem d205_14 : decode cX12_heldBehind 14 = .ok (.aload_n 0, 1) := by decide +kernel
theorem k205_14 {d x : Nat} {l1 l2 l3 l4 l5 : Option PV} {st : List PV} {M : Mem} {Q : Option PV → Mem → Prop} : WP d 205 14 [some (vr x), l1, l2, l3, l4, l5] (st) M Q = WP d 205 15 [some (vr x), l1, l2, l3, l4, l5] (vr x :: st) M Q := w1 mC_205 d205_14 rfl rfl
theorem d205_15 : decode cX12_heldBehind 15 = .ok (.getfield 9, 3) := by decide +kernel
theorem k205_15 {d : Nat} {l0 l1 l2 l3 l4 l5 : Option PV} {st : List PV} {M : Mem} {Q : Option PV → Mem → Prop} {r : Nat} (hk : mK M r = 12) : WP d 205 15 [l0, l1, l2, l3, l4, l5] (vr r :: st) M Q = WP d 205 18 [l0, l1, l2, l3, l4, l5] (vr (mR M r 2) :: st) M Q := w_getr mC_205 d205_15 fE_12_9 rfl (by rw [hk]; rfl)
theorem d205_18 : decode cX12_heldBehind 18 = .ok (.bipush 32, 2) := by decide +kernel
theorem k205_18 {d : Nat} {l0 l1 l2 l3 l4 l5 : Option PV} {st : List PV} {M : Mem} {Q : Option PV → Mem → Prop} : WP d 205 18 [l0, l1, l2, l3, l4, l5] (st) M Q = WP d 205 20 [l0, l1, l2, l3, l4, l5] (vi 32 :: st) M Q := w_bipush mC_205 d205_18 (by decide)
theorem d205_20 : decode cX12_heldBehind 20 = .ok (.iload 4, 2) := by decide +kernel
theorem k205_20 {d : Nat} {x : Int32} {l0 l1 l2 l3 l5 : Option PV} {st : List PV} {M : Mem} {Q : Option PV → Mem → Prop} : WP d 205 20 [l0, l1, l2, l3, some (vi x), l5] (st) M Q = WP d 205 22 [l0, l1, l2, l3, some (vi x), l5] (vi x :: st) M Q := w1 mC_205 d205_20 rfl rfl
theorem d205_22 : decode cX12_heldBehind 22 = .ok (.iadd, 1) := by decide +kernel
theorem k205_22 {d : Nat} {l0 l1 l2 l3 l4 l5 : Option PV} {st : List PV} {M : Mem} {Q : Option PV → Mem → Prop} {x y : Int32} : WP d 205 22 [l0, l1, l2, l3, l4, l5] (vi y :: vi x :: st) M Q = WP d 205 23 [l0, l1, l2, l3, l4, l5] (vi (x + y) :: st) M Q := w1 mC_205 d205_22 rfl rfl
theorem d205_23 : decode cX12_heldBehind 23 = .ok (.iload_n 1, 1) := by decide +kernel
theorem k205_23 {d : Nat} {x : Int32} {l0 l2 l3 l4 l5 : Option PV} {st : List PV} {M : Mem} {Q : Option PV → Mem → Prop} : WP d 205 23 [l0, some (vi x), l2, l3, l4, l5] (st) M Q = WP d 205 24 [l0, some (vi x), l2, l3, l4, l5] (vi x :: st) M Q := w1 mC_205 d205_23 rfl rfl
theorem d205_24 : decode cX12_heldBehind 24 = .ok (.bipush 10, 2) := by decide +kernel
theorem k205_24 {d : Nat} {l0 l1 l2 l3 l4 l5 : Option PV} {st : List PV} {M : Mem} {Q : Option PV → Mem → Prop} : WP d 205 24 [l0, l1, l2, l3, l4, l5] (st) M Q = WP d 205 26 [l0, l1, l2, l3, l4, l5] (vi 10 :: st) M Q := w_bipush mC_205 d205_24 (by decide)
theorem d205_26 : decode cX12_heldBehind 26 = .ok (.idiv, 1) := by decide +kernel
theorem k205_26 {d : Nat} {l0 l1 l2 l3 l4 l5 : Option PV} {st : List PV} {M : Mem} {Q : Option PV → Mem → Prop} {x y : Int32} (h : y ≠ 0) : WP d 205 26 [l0, l1, l2, l3, l4, l5] (vi y :: vi x :: st) M Q = WP d 205 27 [l0, l1, l2, l3, l4, l5] (vi (x / y) :: st) M Q := w_div mC_205 d205_26 h
theorem d205_27 : decode cX12_heldBehind 27 = .ok (.iastore, 1) := by decide +kernel
theorem k205_27 {d : Nat} {l0 l1 l2 l3 l4 l5 : Option PV} {st : List PV} {M : Mem} {Q : Option PV → Mem → Prop} {r : Nat} {j x : Int32} (hk : mK M r = 13) (hj : inb j (mN M r)) (h1 : r ≠ 1) : WP d 205 27 [l0, l1, l2, l3, l4, l5] (vi x :: vi j :: vr r :: st) M Q = WP d 205 28 [l0, l1, l2, l3, l4, l5] (st) (sI M r (ix j) x) Q := w_iast mC_205 d205_27 hk hj h1
theorem d205_28 : decode cX12_heldBehind 28 = .ok (.aload_n 0, 1) := by decide +kernel
theorem k205_28 {d x : Nat} {l1 l2 l3 l4 l5 : Option PV} {st : List PV} {M : Mem} {Q : Option PV → Mem → Prop} : WP d 205 28 [some (vr x), l1, l2, l3, l4, l5] (st) M Q = WP d 205 29 [some (vr x), l1, l2, l3, l4, l5] (vr x :: st) M Q := w1 mC_205 d205_28 rfl rfl
theorem d205_29 : decode cX12_heldBehind 29 = .ok (.getfield 9, 3) := by decide +kernel
theorem k205_29 {d : Nat} {l0 l1 l2 l3 l4 l5 : Option PV} {st : List PV} {M : Mem} {Q : Option PV → Mem → Prop} {r : Nat} (hk : mK M r = 12) : WP d 205 29 [l0, l1, l2, l3, l4, l5] (vr r :: st) M Q = WP d 205 32 [l0, l1, l2, l3, l4, l5] (vr (mR M r 2) :: st) M Q := w_getr mC_205 d205_29 fE_12_9 rfl (by rw [hk]; rfl)
theorem d205_32 : decode cX12_heldBehind 32 = .ok (.bipush 40, 2) := by decide +kernel
theorem k205_32 {d : Nat} {l0 l1 l2 l3 l4 l5 : Option PV} {st : List PV} {M : Mem} {Q : Option PV → Mem → Prop} : WP d 205 32 [l0, l1, l2, l3, l4, l5] (st) M Q = WP d 205 34 [l0, l1, l2, l3, l4, l5] (vi 40 :: st) M Q := w_bipush mC_205 d205_32 (by decide)
theorem d205_34 : decode cX12_heldBehind 34 = .ok (.iload 4, 2) := by decide +kernel
theorem k205_34 {d : Nat} {x : Int32} {l0 l1 l2 l3 l5 : Option PV} {st : List PV} {M : Mem} {Q : Option PV → Mem → Prop} : WP d 205 34 [l0, l1, l2, l3, some (vi x), l5] (st) M Q = WP d 205 36 [l0, l1, l2, l3, some (vi x), l5] (vi x :: st) M Q := w1 mC_205 d205_34 rfl rfl
theorem d205_36 : decode cX12_heldBehind 36 = .ok (.iadd, 1) := by decide +kernel
theorem k205_36 {d : Nat} {l0 l1 l2 l3 l4 l5 : Option PV} {st : List PV} {M : Mem} {Q : Option PV → Mem → Prop} {x y : Int32} : WP d 205 36 [l0, l1, l2, l3, l4, l5] (vi y :: vi x :: st) M Q = WP d 205 37 [l0, l1, l2, l3, l4, l5] (vi (x + y) :: st) M Q := w1 mC_205 d205_36 rfl rfl
theorem d205_37 : decode cX12_heldBehind 37 = .ok (.iload_n 2, 1) := by decide +kernel
theorem k205_37 {d : Nat} {x : Int32} {l0 l1 l3 l4 l5 : Option PV} {st : List PV} {M : Mem} {Q : Option PV → Mem → Prop} : WP d 205 37 [l0, l1, some (vi x), l3, l4, l5] (st) M Q = WP d 205 38 [l0, l1, some (vi x), l3, l4, l5] (vi x :: st) M Q := w1 mC_205 d205_37 rfl rfl
theorem d205_38 : decode cX12_heldBehind 38 = .ok (.iastore, 1) := by decide +kernel
theorem k205_38 {d : Nat} {l0 l1 l2 l3 l4 l5 : Option PV} {st : List PV} {M : Mem} {Q : Option PV → Mem → Prop} {r : Nat} {j x : Int32} (hk : mK M r = 13) (hj : inb j (mN M r)) (h1 : r ≠ 1) : WP d 205 38 [l0, l1, l2, l3, l4, l5] (vi x :: vi j :: vr r :: st) M Q = WP d 205 39 [l0, l1, l2, l3, l4, l5] (st) (sI M r (ix j) x) Q := w_iast mC_205 d205_38 hk hj h1
theorem d205_39 : decode cX12_heldBehind 39 = .ok (.iconst 0, 1) := by decide +kernel
theorem k205_39 {d : Nat} {l0 l1 l2 l3 l4 l5 : Option PV} {st : List PV} {M : Mem} {Q : Option PV → Mem → Prop} : WP d 205 39 [l0, l1, l2, l3, l4, l5] (st) M Q = WP d 205 40 [l0, l1, l2, l3, l4, l5] (vi 0 :: st) M Q := w_iconst mC_205 d205_39 (by decide)
theorem d205_40 : decode cX12_heldBehind 40 = .ok (.istore 5, 2) := by decide +kernel
theorem k205_40 {d : Nat} {l0 l1 l2 l3 l4 l5 : Option PV} {st : List PV} {M : Mem} {Q : Option PV → Mem → Prop} {x : Int32} : WP d 205 40 [l0, l1, l2, l3, l4, l5] (vi x :: st) M Q = WP d 205 42 [l0, l1, l2, l3, l4, some (vi x)] (st) M Q := w1 mC_205 d205_40 rfl rfl
theorem d205_42 : decode cX12_heldBehind 42 = .ok (.iload 5, 2) := by decide +kernel
theorem k205_42 {d : Nat} {x : Int32} {l0 l1 l2 l3 l4 : Option PV} {st : List PV} {M : Mem} {Q : Option PV → Mem → Prop} : WP d 205 42 [l0, l1, l2, l3, l4, some (vi x)] (st) M Q = WP d 205 44 [l0, l1, l2, l3, l4, some (vi x)] (vi x :: st) M Q := w1 mC_205 d205_42 rfl rfl
theorem d205_44 : decode cX12_heldBehind 44 = .ok (.iload_n 3, 1) := by decide +kernel
theorem k205_44 {d : Nat} {x : Int32} {l0 l1 l2 l4 l5 : Option PV} {st : List PV} {M : Mem} {Q : Option PV → Mem → Prop} : WP d 205 44 [l0, l1, l2, some (vi x), l4, l5] (st) M Q = WP d 205 45 [l0, l1, l2, some (vi x), l4, l5] (vi x :: st) M Q := w1 mC_205 d205_44 rfl rfl
theorem d205_45 : decode cX12_heldBehind 45 = .ok (.if_icmp .ge 42, 3) := by decide +kernel
theorem k205_45 {d : Nat} {l0 l1 l2 l3 l4 l5 : Option PV} {st : List PV} {M : Mem} {Q : Option PV → Mem → Prop} {x y : Int32} : WP d 205 45 [l0, l1, l2, l3, l4, l5] (vi y :: vi x :: st) M Q = (if y ≤ x then WP d 205 87 [l0, l1, l2, l3, l4, l5] (st) M Q else WP d 205 48 [l0, l1, l2, l3, l4, l5] (st) M Q) := w_ic_ge mC_205 d205_45 (by decide)
theorem d205_48 : decode cX12_heldBehind 48 = .ok (.aload_n 0, 1) := by decide +kernel
theorem k205_48 {d x : Nat} {l1 l2 l3 l4 l5 : Option PV} {st : List PV} {M : Mem} {Q : Option PV → Mem → Prop} : WP d 205 48 [some (vr x), l1, l2, l3, l4, l5] (st) M Q = WP d 205 49 [some (vr x), l1, l2, l3, l4, l5] (vr x :: st) M Q := w1 mC_205 d205_48 rfl rfl
theorem d205_49 : decode cX12_heldBehind 49 = .ok (.iload 4, 2) := by decide +kernel
theorem k205_49 {d : Nat} {x : Int32} {l0 l1 l2 l3 l5 : Option PV} {st : List PV} {M : Mem} {Q : Option PV → Mem → Prop} : WP d 205 49 [l0, l1, l2, l3, some (vi x), l5] (st) M Q = WP d 205 51 [l0, l1, l2, l3, some (vi x), l5] (vi x :: st) M Q := w1 mC_205 d205_49 rfl rfl
theorem d205_51 : decode cX12_heldBehind 51 = .ok (.invokevirtual 231, 3) := by decide +kernel
theorem k205_51 {d : Nat} {l0 l1 l2 l3 l4 l5 : Option PV} {st : List PV} {M : Mem} {Q : Option PV → Mem → Prop} {a0 : Int32} {r : Nat} (hl : szL st ≤ 8) (hk : mK M r = 12) : WP (d + 1) 205 51 [l0, l1, l2, l3, l4, l5] (vi a0 :: vr r :: st) M Q = WP d 181 0 [some (vr r), some (vi a0)] [] M (fun v M' => WP (d + 1) 205 54 [l0, l1, l2, l3, l4, l5] (psh v st) M' Q) := w_callV mC_205 d205_51 (ci := 12) rfl rfl rfl (Nat.le_of_ble_eq_true rfl) (by decide) rfl hl hk
theorem d205_54 : decode cX12_heldBehind 54 = .ok (.iconst (-1), 1) := by decide +kernel
theorem k205_54 {d : Nat} {l0 l1 l2 l3 l4 l5 : Option PV} {st : List PV} {M : Mem} {Q : Option PV → Mem → Prop} : WP d 205 54 [l0, l1, l2, l3, l4, l5] (st) M Q = WP d 205 55 [l0, l1, l2, l3, l4, l5] (vi (-1) :: st) M Q := w_iconst mC_205 d205_54 (by decide)
theorem d205_55 : decode cX12_heldBehind 55 = .ok (.if_icmp .eq 32, 3) := by decide +kernel
theorem k205_55 {d : Nat} {l0 l1 l2 l3 l4 l5 : Option PV} {st : List PV} {M : Mem} {Q : Option PV → Mem → Prop} {x y : Int32} : WP d 205 55 [l0, l1, l2, l3, l4, l5] (vi y :: vi x :: st) M Q = (if x = y then WP d 205 87 [l0, l1, l2, l3, l4, l5] (st) M Q else WP d 205 58 [l0, l1, l2, l3, l4, l5] (st) M Q) := w_ic_eq mC_205 d205_55 (by decide)
theorem d205_58 : decode cX12_heldBehind 58 = .ok (.aload_n 0, 1) := by decide +kernel
theorem k205_58 {d x : Nat} {l1 l2 l3 l4 l5 : Option PV} {st : List PV} {M : Mem} {Q : Option PV → Mem → Prop} : WP d 205 58 [some (vr x), l1, l2, l3, l4, l5] (st) M Q = WP d 205 59 [some (vr x), l1, l2, l3, l4, l5] (vr x :: st) M Q := w1 mC_205 d205_58 rfl rfl
theorem d205_59 : decode cX12_heldBehind 59 = .ok (.iload 4, 2) := by decide +kernel
theorem k205_59 {d : Nat} {x : Int32} {l0 l1 l2 l3 l5 : Option PV} {st : List PV} {M : Mem} {Q : Option PV → Mem → Prop} : WP d 205 59 [l0, l1, l2, l3, some (vi x), l5] (st) M Q = WP d 205 61 [l0, l1, l2, l3, some (vi x), l5] (vi x :: st) M Q := w1 mC_205 d205_59 rfl rfl
theorem d205_61 : decode cX12_heldBehind 61 = .ok (.invokevirtual 261, 3) := by decide +kernel
theorem k205_61 {d : Nat} {l0 l1 l2 l3 l4 l5 : Option PV} {st : List PV} {M : Mem} {Q : Option PV → Mem → Prop} {a0 : Int32} {r : Nat} (hl : szL st ≤ 8) (hk : mK M r = 12) : WP (d + 1) 205 61 [l0, l1, l2, l3, l4, l5] (vi a0 :: vr r :: st) M Q = WP d 187 0 [some (vr r), some (vi a0), none, none] [] M (fun v M' => WP (d + 1) 205 64 [l0, l1, l2, l3, l4, l5] (psh v st) M' Q) := w_callV mC_205 d205_61 (ci := 12) rfl rfl rfl (Nat.le_of_ble_eq_true rfl) (by decide) rfl hl hk
theorem d205_64 : decode cX12_heldBehind 64 = .ok (.aload_n 0, 1) := by decide +kernel
theorem k205_64 {d x : Nat} {l1 l2 l3 l4 l5 : Option PV} {st : List PV} {M : Mem} {Q : Option PV → Mem → Prop} : WP d 205 64 [some (vr x), l1, l2, l3, l4, l5] (st) M Q = WP d 205 65 [some (vr x), l1, l2, l3, l4, l5] (vr x :: st) M Q := w1 mC_205 d205_64 rfl rfl
theorem d205_65 : decode cX12_heldBehind 65 = .ok (.getfield 15, 3) := by decide +kernel
theorem k205_65 {d : Nat} {l0 l1 l2 l3 l4 l5 : Option PV} {st : List PV} {M : Mem} {Q : Option PV → Mem → Prop} {r : Nat} (hk : mK M r = 12) : WP d 205 65 [l0, l1, l2, l3, l4, l5] (vr r :: st) M Q = WP d 205 68 [l0, l1, l2, l3, l4, l5] (vr (mR M r 3) :: st) M Q := w_getr mC_205 d205_65 fE_12_15 rfl (by rw [hk]; rfl)
theorem d205_68 : decode cX12_heldBehind 68 = .ok (.iconst 1, 1) := by decide +kernel
theorem k205_68 {d : Nat} {l0 l1 l2 l3 l4 l5 : Option PV} {st : List PV} {M : Mem} {Q : Option PV → Mem → Prop} : WP d 205 68 [l0, l1, l2, l3, l4, l5] (st) M Q = WP d 205 69 [l0, l1, l2, l3, l4, l5] (vi 1 :: st) M Q := w_iconst mC_205 d205_68 (by decide)
theorem d205_69 : decode cX12_heldBehind 69 = .ok (.aload_n 0, 1) := by decide +kernel
theorem k205_69 {d x : Nat} {l1 l2 l3 l4 l5 : Option PV} {st : List PV} {M : Mem} {Q : Option PV → Mem → Prop} : WP d 205 69 [some (vr x), l1, l2, l3, l4, l5] (st) M Q = WP d 205 70 [some (vr x), l1, l2, l3, l4, l5] (vr x :: st) M Q := w1 mC_205 d205_69 rfl rfl
theorem d205_70 : decode cX12_heldBehind 70 = .ok (.getfield 15, 3) := by decide +kernel
theorem k205_70 {d : Nat} {l0 l1 l2 l3 l4 l5 : Option PV} {st : List PV} {M : Mem} {Q : Option PV → Mem → Prop} {r : Nat} (hk : mK M r = 12) : WP d 205 70 [l0, l1, l2, l3, l4, l5] (vr r :: st) M Q = WP d 205 73 [l0, l1, l2, l3, l4, l5] (vr (mR M r 3) :: st) M Q := w_getr mC_205 d205_70 fE_12_15 rfl (by rw [hk]; rfl)
theorem d205_73 : decode cX12_heldBehind 73 = .ok (.iconst 1, 1) := by decide +kernel
theorem k205_73 {d : Nat} {l0 l1 l2 l3 l4 l5 : Option PV} {st : List PV} {M : Mem} {Q : Option PV → Mem → Prop} : WP d 205 73 [l0, l1, l2, l3, l4, l5] (st) M Q = WP d 205 74 [l0, l1, l2, l3, l4, l5] (vi 1 :: st) M Q := w_iconst mC_205 d205_73 (by decide)
theorem d205_74 : decode cX12_heldBehind 74 = .ok (.iaload, 1) := by decide +kernel
theorem k205_74 {d : Nat} {l0 l1 l2 l3 l4 l5 : Option PV} {st : List PV} {M : Mem} {Q : Option PV → Mem → Prop} {r : Nat} {j : Int32} (hk : mK M r = 13) (hj : inb j (mN M r)) (h1 : r ≠ 1) : WP d 205 74 [l0, l1, l2, l3, l4, l5] (vi j :: vr r :: st) M Q = WP d 205 75 [l0, l1, l2, l3, l4, l5] (vi (mI M r (ix j)) :: st) M Q := w_iald mC_205 d205_74 (by decide) hk hj h1
theorem d205_75 : decode cX12_heldBehind 75 = .ok (.iconst 1, 1) := by decide +kernel
theorem k205_75 {d : Nat} {l0 l1 l2 l3 l4 l5 : Option PV} {st : List PV} {M : Mem} {Q : Option PV → Mem → Prop} : WP d 205 75 [l0, l1, l2, l3, l4, l5] (st) M Q = WP d 205 76 [l0, l1, l2, l3, l4, l5] (vi 1 :: st) M Q := w_iconst mC_205 d205_75 (by decide)
theorem d205_76 : decode cX12_heldBehind 76 = .ok (.iadd, 1) := by decide +kernel
theorem k205_76 {d : Nat} {l0 l1 l2 l3 l4 l5 : Option PV} {st : List PV} {M : Mem} {Q : Option PV → Mem → Prop} {x y : Int32} : WP d 205 76 [l0, l1, l2, l3, l4, l5] (vi y :: vi x :: st) M Q = WP d 205 77 [l0, l1, l2, l3, l4, l5] (vi (x + y) :: st) M Q := w1 mC_205 d205_76 rfl rfl
theorem d205_77 : decode cX12_heldBehind 77 = .ok (.bipush 12, 2) := by decide +kernel
theorem k205_77 {d : Nat} {l0 l1 l2 l3 l4 l5 : Option PV} {st : List PV} {M : Mem} {Q : Option PV → Mem → Prop} : WP d 205 77 [l0, l1, l2, l3, l4, l5] (st) M Q = WP d 205 79 [l0, l1, l2, l3, l4, l5] (vi 12 :: st) M Q := w_bipush mC_205 d205_77 (by decide)
theorem d205_79 : decode cX12_heldBehind 79 = .ok (.irem, 1) := by decide +kernel
theorem k205_79 {d : Nat} {l0 l1 l2 l3 l4 l5 : Option PV} {st : List PV} {M : Mem} {Q : Option PV → Mem → Prop} {x y : Int32} (h : y ≠ 0) : WP d 205 79 [l0, l1, l2, l3, l4, l5] (vi y :: vi x :: st) M Q = WP d 205 80 [l0, l1, l2, l3, l4, l5] (vi (x % y) :: st) M Q := w_rem mC_205 d205_79 h
theorem d205_80 : decode cX12_heldBehind 80 = .ok (.iastore, 1) := by decide +kernel
theorem k205_80 {d : Nat} {l0 l1 l2 l3 l4 l5 : Option PV} {st : List PV} {M : Mem} {Q : Option PV → Mem → Prop} {r : Nat} {j x : Int32} (hk : mK M r = 13) (hj : inb j (mN M r)) (h1 : r ≠ 1) : WP d 205 80 [l0, l1, l2, l3, l4, l5] (vi x :: vi j :: vr r :: st) M Q = WP d 205 81 [l0, l1, l2, l3, l4, l5] (st) (sI M r (ix j) x) Q := w_iast mC_205 d205_80 hk hj h1
theorem d205_81 : decode cX12_heldBehind 81 = .ok (.iinc 5 1, 3) := by decide +kernel
theorem k205_81 {d : Nat} {x : Int32} {l0 l1 l2 l3 l4 : Option PV} {st : List PV} {M : Mem} {Q : Option PV → Mem → Prop} : WP d 205 81 [l0, l1, l2, l3, l4, some (vi x)] (st) M Q = WP d 205 84 [l0, l1, l2, l3, l4, some (vi (x + 1))] (st) M Q := w_iinc mC_205 d205_81 rfl (by decide) rfl
theorem d205_84 : decode cX12_heldBehind 84 = .ok (.goto (-42), 3) := by decide +kernel
theorem k205_84 {d : Nat} {l0 l1 l2 l3 l4 l5 : Option PV} {st : List PV} {M : Mem} {Q : Option PV → Mem → Prop} : WP d 205 84 [l0, l1, l2, l3, l4, l5] (st) M Q = WP d 205 42 [l0, l1, l2, l3, l4, l5] (st) M Q := w_goto mC_205 d205_84 (by decide)
theorem d205_87 : decode cX12_heldBehind 87 = .ok (.aload_n 0, 1) := by decide +kernel
theorem k205_87 {d x : Nat} {l1 l2 l3 l4 l5 : Option PV} {st : List PV} {M : Mem} {Q : Option PV → Mem → Prop} : WP d 205 87 [some (vr x), l1, l2, l3, l4, l5] (st) M Q = WP d 205 88 [some (vr x), l1, l2, l3, l4, l5] (vr x :: st) M Q := w1 mC_205 d205_87 rfl rfl
theorem d205_88 : decode cX12_heldBehind 88 = .ok (.iload 4, 2) := by decide +kernel
theorem k205_88 {d : Nat} {x : Int32} {l0 l1 l2 l3 l5 : Option PV} {st : List PV} {M : Mem} {Q : Option PV → Mem → Prop} : WP d 205 88 [l0, l1, l2, l3, some (vi x), l5] (st) M Q = WP d 205 90 [l0, l1, l2, l3, some (vi x), l5] (vi x :: st) M Q := w1 mC_205 d205_88 rfl rfl
theorem d205_90 : decode cX12_heldBehind 90 = .ok (.invokevirtual 228, 3) := by decide +kernel
theorem k205_90 {d : Nat} {l0 l1 l2 l3 l4 l5 : Option PV} {st : List PV} {M : Mem} {Q : Option PV → Mem → Prop} {a0 : Int32} {r : Nat} (hl : szL st ≤ 8) (hk : mK M r = 12) : WP (d + 1) 205 90 [l0, l1, l2, l3, l4, l5] (vi a0 :: vr r :: st) M Q = WP d 182 0 [some (vr r), some (vi a0)] [] M (fun v M' => WP (d + 1) 205 93 [l0, l1, l2, l3, l4, l5] (psh v st) M' Q) := w_callV mC_205 d205_90 (ci := 12) rfl rfl rfl (Nat.le_of_ble_eq_true rfl) (by decide) rfl hl hk
theorem d205_93 : decode cX12_heldBehind 93 = .ok (.istore 5, 2) := by decide +kernel
theorem k205_93 {d : Nat} {l0 l1 l2 l3 l4 l5 : Option PV} {st : List PV} {M : Mem} {Q : Option PV → Mem → Prop} {x : Int32} : WP d 205 93 [l0, l1, l2, l3, l4, l5] (vi x :: st) M Q = WP d 205 95 [l0, l1, l2, l3, l4, some (vi x)] (st) M Q := w1 mC_205 d205_93 rfl rfl
theorem d205_95 : decode cX12_heldBehind 95 = .ok (.aload_n 0, 1) := by decide +kernel
theorem k205_95 {d x : Nat} {l1 l2 l3 l4 l5 : Option PV} {st : List PV} {M : Mem} {Q : Option PV → Mem → Prop} : WP d 205 95 [some (vr x), l1, l2, l3, l4, l5] (st) M Q = WP d 205 96 [some (vr x), l1, l2, l3, l4, l5] (vr x :: st) M Q := w1 mC_205 d205_95 rfl rfl
theorem d205_96 : decode cX12_heldBehind 96 = .ok (.invokevirtual 279, 3) := by decide +kernel
theorem k205_96 {d : Nat} {l0 l1 l2 l3 l4 l5 : Option PV} {st : List PV} {M : Mem} {Q : Option PV → Mem → Prop} {r : Nat} (hl : szL st ≤ 8) (hk : mK M r = 12) : WP (d + 1) 205 96 [l0, l1, l2, l3, l4, l5] (vr r :: st) M Q = WP d 192 0 [some (vr r)] [] M (fun v M' => WP (d + 1) 205 99 [l0, l1, l2, l3, l4, l5] (psh v st) M' Q) := w_callV mC_205 d205_96 (ci := 12) rfl rfl rfl (Nat.le_of_ble_eq_true rfl) (by decide) rfl hl hk
theorem d205_99 : decode cX12_heldBehind 99 = .ok (.iload 5, 2) := by decide +kernel
theorem k205_99 {d : Nat} {x : Int32} {l0 l1 l2 l3 l4 : Option PV} {st : List PV} {M : Mem} {Q : Option PV → Mem → Prop} : WP d 205 99 [l0, l1, l2, l3, l4, some (vi x)] (st) M Q = WP d 205 101 [l0, l1, l2, l3, l4, some (vi x)] (vi x :: st) M Q := w1 mC_205 d205_99 rfl rfl
theorem d205_101 : decode cX12_heldBehind 101 = .ok (.ireturn, 1) := by decide +kernel
theorem k205_101 {d : Nat} {l0 l1 l2 l3 l4 l5 : Option PV} {M : Mem} {Q : Option PV → Mem → Prop} {x : Int32} : WP d 205 101 [l0, l1, l2, l3, l4, l5] ([vi x]) M Q = Q (some (vi x)) M := w_iret mC_205 d205_101 rfl
theorem d206_0 : decode cX12_least 0 = .ok (.aload_n 0, 1) := by decide +kernel
theorem k206_0 {d x : Nat} {l1 l2 l3 : Option PV} {st : List PV} {M : Mem} {Q : Option PV → Mem → Prop} : WP d 206 0 [some (vr x), l1, l2, l3] (st) M Q = WP d 206 1 [some (vr x), l1, l2, l3] (vr x :: st) M Q := w1 mC_206 d206_0 rfl rfl
theorem d206_1 : decode cX12_least 1 = .ok (.iload_n 1, 1) := by decide +kernel
theorem k206_1 {d : Nat} {x : Int32} {l0 l2 l3 : Option PV} {st : List PV} {M : Mem} {Q : Option PV → Mem → Prop} : WP d 206 1 [l0, some (vi x), l2, l3] (st) M Q = WP d 206 2 [l0, some (vi x), l2, l3] (vi x :: st) M Q := w1 mC_206 d206_1 rfl rfl
theorem d206_2 : decode cX12_least 2 = .ok (.invokevirtual 290, 3) := by decide +kernel
theorem k206_2 {d : Nat} {l0 l1 l2 l3 : Option PV} {st : List PV} {M : Mem} {Q : Option PV → Mem → Prop} {a0 : Int32} {r : Nat} (hl : szL st ≤ 8) (hk : mK M r = 12) : WP (d + 1) 206 2 [l0, l1, l2, l3] (vi a0 :: vr r :: st) M Q = WP d 200 0 [some (vr r), some (vi a0)] [] M (fun v M' => WP (d + 1) 206 5 [l0, l1, l2, l3] (psh v st) M' Q) := w_callV mC_206 d206_2 (ci := 12) rfl rfl rfl (Nat.le_of_ble_eq_true rfl) (by decide) rfl hl hk
theorem d206_5 : decode cX12_least 5 = .ok (.ifCond .eq 16, 3) := by decide +kernel
theorem k206_5 {d : Nat} {l0 l1 l2 l3 : Option PV} {st : List PV} {M : Mem} {Q : Option PV → Mem → Prop} {x : Int32} : WP d 206 5 [l0, l1, l2, l3] (vi x :: st) M Q = (if x = 0 then WP d 206 21 [l0, l1, l2, l3] (st) M Q else WP d 206 8 [l0, l1, l2, l3] (st) M Q) := w_if_eq mC_206 d206_5 (by decide)
theorem d206_8 : decode cX12_least 8 = .ok (.iload_n 2, 1) := by decide +kernel
theorem k206_8 {d : Nat} {x : Int32} {l0 l1 l3 : Option PV} {st : List PV} {M : Mem} {Q : Option PV → Mem → Prop} : WP d 206 8 [l0, l1, some (vi x), l3] (st) M Q = WP d 206 9 [l0, l1, some (vi x), l3] (vi x :: st) M Q := w1 mC_206 d206_8 rfl rfl
theorem d206_9 : decode cX12_least 9 = .ok (.ifCond .lt 12, 3) := by decide +kernel
theorem k206_9 {d : Nat} {l0 l1 l2 l3 : Option PV} {st : List PV} {M : Mem} {Q : Option PV → Mem → Prop} {x : Int32} : WP d 206 9 [l0, l1, l2, l3] (vi x :: st) M Q = (if x < 0 then WP d 206 21 [l0, l1, l2, l3] (st) M Q else WP d 206 12 [l0, l1, l2, l3] (st) M Q) := w_if_lt mC_206 d206_9 (by decide)
theorem d206_12 : decode cX12_least 12 = .ok (.iload_n 2, 1) := by decide +kernel
theorem k206_12 {d : Nat} {x : Int32} {l0 l1 l3 : Option PV} {st : List PV} {M : Mem} {Q : Option PV → Mem → Prop} : WP d 206 12 [l0, l1, some (vi x), l3] (st) M Q = WP d 206 13 [l0, l1, some (vi x), l3] (vi x :: st) M Q := w1 mC_206 d206_12 rfl rfl
theorem d206_13 : decode cX12_least 13 = .ok (.bipush 10, 2) := by decide +kernel
theorem k206_13 {d : Nat} {l0 l1 l2 l3 : Option PV} {st : List PV} {M : Mem} {Q : Option PV → Mem → Prop} : WP d 206 13 [l0, l1, l2, l3] (st) M Q = WP d 206 15 [l0, l1, l2, l3] (vi 10 :: st) M Q := w_bipush mC_206 d206_13 (by decide)
theorem d206_15 : decode cX12_least 15 = .ok (.idiv, 1) := by decide +kernel
theorem k206_15 {d : Nat} {l0 l1 l2 l3 : Option PV} {st : List PV} {M : Mem} {Q : Option PV → Mem → Prop} {x y : Int32} (h : y ≠ 0) : WP d 206 15 [l0, l1, l2, l3] (vi y :: vi x :: st) M Q = WP d 206 16 [l0, l1, l2, l3] (vi (x / y) :: st) M Q := w_div mC_206 d206_15 h
theorem d206_16 : decode cX12_least 16 = .ok (.bipush 20, 2) := by decide +kernel
theorem k206_16 {d : Nat} {l0 l1 l2 l3 : Option PV} {st : List PV} {M : Mem} {Q : Option PV → Mem → Prop} : WP d 206 16 [l0, l1, l2, l3] (st) M Q = WP d 206 18 [l0, l1, l2, l3] (vi 20 :: st) M Q := w_bipush mC_206 d206_16 (by decide)
theorem d206_18 : decode cX12_least 18 = .ok (.if_icmp .le 5, 3) := by decide +kernel
theorem k206_18 {d : Nat} {l0 l1 l2 l3 : Option PV} {st : List PV} {M : Mem} {Q : Option PV → Mem → Prop} {x y : Int32} : WP d 206 18 [l0, l1, l2, l3] (vi y :: vi x :: st) M Q = (if x ≤ y then WP d 206 23 [l0, l1, l2, l3] (st) M Q else WP d 206 21 [l0, l1, l2, l3] (st) M Q) := w_ic_le mC_206 d206_18 (by decide)
theorem d206_21 : decode cX12_least 21 = .ok (.iconst (-1), 1) := by decide +kernel
theorem k206_21 {d : Nat} {l0 l1 l2 l3 : Option PV} {st : List PV} {M : Mem} {Q : Option PV → Mem → Prop} : WP d 206 21 [l0, l1, l2, l3] (st) M Q = WP d 206 22 [l0, l1, l2, l3] (vi (-1) :: st) M Q := w_iconst mC_206 d206_21 (by decide)
theorem d206_22 : decode cX12_least 22 = .ok (.ireturn, 1) := by decide +kernel
theorem k206_22 {d : Nat} {l0 l1 l2 l3 : Option PV} {M : Mem} {Q : Option PV → Mem → Prop} {x : Int32} : WP d 206 22 [l0, l1, l2, l3] ([vi x]) M Q = Q (some (vi x)) M := w_iret mC_206 d206_22 rfl
theorem d206_23 : decode cX12_least 23 = .ok (.iconst 1, 1) := by decide +kernel
theorem k206_23 {d : Nat} {l0 l1 l2 l3 : Option PV} {st : List PV} {M : Mem} {Q : Option PV → Mem → Prop} : WP d 206 23 [l0, l1, l2, l3] (st) M Q = WP d 206 24 [l0, l1, l2, l3] (vi 1 :: st) M Q := w_iconst mC_206 d206_23 (by decide)
theorem d206_24 : decode cX12_least 24 = .ok (.istore_n 3, 1) := by decide +kernel
theorem k206_24 {d : Nat} {l0 l1 l2 l3 : Option PV} {st : List PV} {M : Mem} {Q : Option PV → Mem → Prop} {x : Int32} : WP d 206 24 [l0, l1, l2, l3] (vi x :: st) M Q = WP d 206 25 [l0, l1, l2, some (vi x)] (st) M Q := w1 mC_206 d206_24 rfl rfl
theorem d206_25 : decode cX12_least 25 = .ok (.iload_n 3, 1) := by decide +kernel
theorem k206_25 {d : Nat} {x : Int32} {l0 l1 l2 : Option PV} {st : List PV} {M : Mem} {Q : Option PV → Mem → Prop} : WP d 206 25 [l0, l1, l2, some (vi x)] (st) M Q = WP d 206 26 [l0, l1, l2, some (vi x)] (vi x :: st) M Q := w1 mC_206 d206_25 rfl rfl
theorem d206_26 : decode cX12_least 26 = .ok (.bipush 99, 2) := by decide +kernel
theorem k206_26 {d : Nat} {l0 l1 l2 l3 : Option PV} {st : List PV} {M : Mem} {Q : Option PV → Mem → Prop} : WP d 206 26 [l0, l1, l2, l3] (st) M Q = WP d 206 28 [l0, l1, l2, l3] (vi 99 :: st) M Q := w_bipush mC_206 d206_26 (by decide)
theorem d206_28 : decode cX12_least 28 = .ok (.if_icmp .gt 31, 3) := by decide +kernel
theorem k206_28 {d : Nat} {l0 l1 l2 l3 : Option PV} {st : List PV} {M : Mem} {Q : Option PV → Mem → Prop} {x y : Int32} : WP d 206 28 [l0, l1, l2, l3] (vi y :: vi x :: st) M Q = (if y < x then WP d 206 59 [l0, l1, l2, l3] (st) M Q else WP d 206 31 [l0, l1, l2, l3] (st) M Q) := w_ic_gt mC_206 d206_28 (by decide)
theorem d206_31 : decode cX12_least 31 = .ok (.aload_n 0, 1) := by decide +kernel
theorem k206_31 {d x : Nat} {l1 l2 l3 : Option PV} {st : List PV} {M : Mem} {Q : Option PV → Mem → Prop} : WP d 206 31 [some (vr x), l1, l2, l3] (st) M Q = WP d 206 32 [some (vr x), l1, l2, l3] (vr x :: st) M Q := w1 mC_206 d206_31 rfl rfl
theorem d206_32 : decode cX12_least 32 = .ok (.iload_n 1, 1) := by decide +kernel
theorem k206_32 {d : Nat} {x : Int32} {l0 l2 l3 : Option PV} {st : List PV} {M : Mem} {Q : Option PV → Mem → Prop} : WP d 206 32 [l0, some (vi x), l2, l3] (st) M Q = WP d 206 33 [l0, some (vi x), l2, l3] (vi x :: st) M Q := w1 mC_206 d206_32 rfl rfl
theorem d206_33 : decode cX12_least 33 = .ok (.iload_n 3, 1) := by decide +kernel
theorem k206_33 {d : Nat} {x : Int32} {l0 l1 l2 : Option PV} {st : List PV} {M : Mem} {Q : Option PV → Mem → Prop} : WP d 206 33 [l0, l1, l2, some (vi x)] (st) M Q = WP d 206 34 [l0, l1, l2, some (vi x)] (vi x :: st) M Q := w1 mC_206 d206_33 rfl rfl
theorem d206_34 : decode cX12_least 34 = .ok (.iload_n 2, 1) := by decide +kernel
theorem k206_34 {d : Nat} {x : Int32} {l0 l1 l3 : Option PV} {st : List PV} {M : Mem} {Q : Option PV → Mem → Prop} : WP d 206 34 [l0, l1, some (vi x), l3] (st) M Q = WP d 206 35 [l0, l1, some (vi x), l3] (vi x :: st) M Q := w1 mC_206 d206_34 rfl rfl
theorem d206_35 : decode cX12_least 35 = .ok (.bipush 10, 2) := by decide +kernel
theorem k206_35 {d : Nat} {l0 l1 l2 l3 : Option PV} {st : List PV} {M : Mem} {Q : Option PV → Mem → Prop} : WP d 206 35 [l0, l1, l2, l3] (st) M Q = WP d 206 37 [l0, l1, l2, l3] (vi 10 :: st) M Q := w_bipush mC_206 d206_35 (by decide)
theorem d206_37 : decode cX12_least 37 = .ok (.idiv, 1) := by decide +kernel
theorem k206_37 {d : Nat} {l0 l1 l2 l3 : Option PV} {st : List PV} {M : Mem} {Q : Option PV → Mem → Prop} {x y : Int32} (h : y ≠ 0) : WP d 206 37 [l0, l1, l2, l3] (vi y :: vi x :: st) M Q = WP d 206 38 [l0, l1, l2, l3] (vi (x / y) :: st) M Q := w_div mC_206 d206_37 h
theorem d206_38 : decode cX12_least 38 = .ok (.invokevirtual 302, 3) := by decide +kernel
theorem k206_38 {d : Nat} {l0 l1 l2 l3 : Option PV} {st : List PV} {M : Mem} {Q : Option PV → Mem → Prop} {a0 a1 a2 : Int32} {r : Nat} (hl : szL st ≤ 8) (hk : mK M r = 12) : WP (d + 1) 206 38 [l0, l1, l2, l3] (vi a2 :: vi a1 :: vi a0 :: vr r :: st) M Q = WP d 205 0 [some (vr r), some (vi a0), some (vi a1), some (vi a2), none, none] [] M (fun v M' => WP (d + 1) 206 41 [l0, l1, l2, l3] (psh v st) M' Q) := w_callV mC_206 d206_38 (ci := 12) rfl rfl rfl (Nat.le_of_ble_eq_true rfl) (by decide) rfl hl hk
theorem d206_41 : decode cX12_least 41 = .ok (.bipush 10, 2) := by decide +kernel
theorem k206_41 {d : Nat} {l0 l1 l2 l3 : Option PV} {st : List PV} {M : Mem} {Q : Option PV → Mem → Prop} : WP d 206 41 [l0, l1, l2, l3] (st) M Q = WP d 206 43 [l0, l1, l2, l3] (vi 10 :: st) M Q := w_bipush mC_206 d206_41 (by decide)
theorem d206_43 : decode cX12_least 43 = .ok (.idiv, 1) := by decide +kernel
theorem k206_43 {d : Nat} {l0 l1 l2 l3 : Option PV} {st : List PV} {M : Mem} {Q : Option PV → Mem → Prop} {x y : Int32} (h : y ≠ 0) : WP d 206 43 [l0, l1, l2, l3] (vi y :: vi x :: st) M Q = WP d 206 44 [l0, l1, l2, l3] (vi (x / y) :: st) M Q := w_div mC_206 d206_43 h
theorem d206_44 : decode cX12_least 44 = .ok (.iload_n 2, 1) := by decide +kernel
theorem k206_44 {d : Nat} {x : Int32} {l0 l1 l3 : Option PV} {st : List PV} {M : Mem} {Q : Option PV → Mem → Prop} : WP d 206 44 [l0, l1, some (vi x), l3] (st) M Q = WP d 206 45 [l0, l1, some (vi x), l3] (vi x :: st) M Q := w1 mC_206 d206_44 rfl rfl
theorem d206_45 : decode cX12_least 45 = .ok (.bipush 10, 2) := by decide +kernel
theorem k206_45 {d : Nat} {l0 l1 l2 l3 : Option PV} {st : List PV} {M : Mem} {Q : Option PV → Mem → Prop} : WP d 206 45 [l0, l1, l2, l3] (st) M Q = WP d 206 47 [l0, l1, l2, l3] (vi 10 :: st) M Q := w_bipush mC_206 d206_45 (by decide)
theorem d206_47 : decode cX12_least 47 = .ok (.irem, 1) := by decide +kernel
theorem k206_47 {d : Nat} {l0 l1 l2 l3 : Option PV} {st : List PV} {M : Mem} {Q : Option PV → Mem → Prop} {x y : Int32} (h : y ≠ 0) : WP d 206 47 [l0, l1, l2, l3] (vi y :: vi x :: st) M Q = WP d 206 48 [l0, l1, l2, l3] (vi (x % y) :: st) M Q := w_rem mC_206 d206_47 h
theorem d206_48 : decode cX12_least 48 = .ok (.if_icmp .lt 5, 3) := by decide +kernel
theorem k206_48 {d : Nat} {l0 l1 l2 l3 : Option PV} {st : List PV} {M : Mem} {Q : Option PV → Mem → Prop} {x y : Int32} : WP d 206 48 [l0, l1, l2, l3] (vi y :: vi x :: st) M Q = (if x < y then WP d 206 53 [l0, l1, l2, l3] (st) M Q else WP d 206 51 [l0, l1, l2, l3] (st) M Q) := w_ic_lt mC_206 d206_48 (by decide)
theorem d206_51 : decode cX12_least 51 = .ok (.iload_n 3, 1) := by decide +kernel
theorem k206_51 {d : Nat} {x : Int32} {l0 l1 l2 : Option PV} {st : List PV} {M : Mem} {Q : Option PV → Mem → Prop} : WP d 206 51 [l0, l1, l2, some (vi x)] (st) M Q = WP d 206 52 [l0, l1, l2, some (vi x)] (vi x :: st) M Q := w1 mC_206 d206_51 rfl rfl
theorem d206_52 : decode cX12_least 52 = .ok (.ireturn, 1) := by decide +kernel
theorem k206_52 {d : Nat} {l0 l1 l2 l3 : Option PV} {M : Mem} {Q : Option PV → Mem → Prop} {x : Int32} : WP d 206 52 [l0, l1, l2, l3] ([vi x]) M Q = Q (some (vi x)) M := w_iret mC_206 d206_52 rfl
theorem d206_53 : decode cX12_least 53 = .ok (.iinc 3 1, 3) := by decide +kernel
theorem k206_53 {d : Nat} {x : Int32} {l0 l1 l2 : Option PV} {st : List PV} {M : Mem} {Q : Option PV → Mem → Prop} : WP d 206 53 [l0, l1, l2, some (vi x)] (st) M Q = WP d 206 56 [l0, l1, l2, some (vi (x + 1))] (st) M Q := w_iinc mC_206 d206_53 rfl (by decide) rfl
theorem d206_56 : decode cX12_least 56 = .ok (.goto (-31), 3) := by decide +kernel
theorem k206_56 {d : Nat} {l0 l1 l2 l3 : Option PV} {st : List PV} {M : Mem} {Q : Option PV → Mem → Prop} : WP d 206 56 [l0, l1, l2, l3] (st) M Q = WP d 206 25 [l0, l1, l2, l3] (st) M Q := w_goto mC_206 d206_56 (by decide)
theorem d206_59 : decode cX12_least 59 = .ok (.bipush (-2), 2) := by decide +kernel
theorem k206_59 {d : Nat} {l0 l1 l2 l3 : Option PV} {st : List PV} {M : Mem} {Q : Option PV → Mem → Prop} : WP d 206 59 [l0, l1, l2, l3] (st) M Q = WP d 206 61 [l0, l1, l2, l3] (vi (-2) :: st) M Q := w_bipush mC_206 d206_59 (by decide)
theorem d206_61 : decode cX12_least 61 = .ok (.ireturn, 1) := by decide +kernel
theorem k206_61 {d : Nat} {l0 l1 l2 l3 : Option PV} {M : Mem} {Q : Option PV → Mem → Prop} {x : Int32} : WP d 206 61 [l0, l1, l2, l3] ([vi x]) M Q = Q (some (vi x)) M := w_iret mC_206 d206_61 rfl
theorem d207_0 : decode cX12_common 0 = .ok (.iload_n 0, 1) := by decide +kernel
theorem k207_0 {d : Nat} {x : Int32} {l1 l2 l3 l4 : Option PV} {st : List PV} {M : Mem} {Q : Option PV → Mem → Prop} : WP d 207 0 [some (vi x), l1, l2, l3, l4] (st) M Q = WP d 207 1 [some (vi x), l1, l2, l3, l4] (vi x :: st) M Q := w1 mC_207 d207_0 rfl rfl
theorem d207_1 : decode cX12_common 1 = .ok (.istore_n 2, 1) := by decide +kernel
theorem k207_1 {d : Nat} {l0 l1 l2 l3 l4 : Option PV} {st : List PV} {M : Mem} {Q : Option PV → Mem → Prop} {x : Int32} : WP d 207 1 [l0, l1, l2, l3, l4] (vi x :: st) M Q = WP d 207 2 [l0, l1, some (vi x), l3, l4] (st) M Q := w1 mC_207 d207_1 rfl rfl
theorem d207_2 : decode cX12_common 2 = .ok (.iload_n 1, 1) := by decide +kernel
theorem k207_2 {d : Nat} {x : Int32} {l0 l2 l3 l4 : Option PV} {st : List PV} {M : Mem} {Q : Option PV → Mem → Prop} : WP d 207 2 [l0, some (vi x), l2, l3, l4] (st) M Q = WP d 207 3 [l0, some (vi x), l2, l3, l4] (vi x :: st) M Q := w1 mC_207 d207_2 rfl rfl
theorem d207_3 : decode cX12_common 3 = .ok (.istore_n 3, 1) := by decide +kernel
theorem k207_3 {d : Nat} {l0 l1 l2 l3 l4 : Option PV} {st : List PV} {M : Mem} {Q : Option PV → Mem → Prop} {x : Int32} : WP d 207 3 [l0, l1, l2, l3, l4] (vi x :: st) M Q = WP d 207 4 [l0, l1, l2, some (vi x), l4] (st) M Q := w1 mC_207 d207_3 rfl rfl
theorem d207_4 : decode cX12_common 4 = .ok (.iload_n 3, 1) := by decide +kernel
theorem k207_4 {d : Nat} {x : Int32} {l0 l1 l2 l4 : Option PV} {st : List PV} {M : Mem} {Q : Option PV → Mem → Prop} : WP d 207 4 [l0, l1, l2, some (vi x), l4] (st) M Q = WP d 207 5 [l0, l1, l2, some (vi x), l4] (vi x :: st) M Q := w1 mC_207 d207_4 rfl rfl
theorem d207_5 : decode cX12_common 5 = .ok (.ifCond .eq 16, 3) := by decide +kernel
theorem k207_5 {d : Nat} {l0 l1 l2 l3 l4 : Option PV} {st : List PV} {M : Mem} {Q : Option PV → Mem → Prop} {x : Int32} : WP d 207 5 [l0, l1, l2, l3, l4] (vi x :: st) M Q = (if x = 0 then WP d 207 21 [l0, l1, l2, l3, l4] (st) M Q else WP d 207 8 [l0, l1, l2, l3, l4] (st) M Q) := w_if_eq mC_207 d207_5 (by decide)
theorem d207_8 : decode cX12_common 8 = .ok (.iload_n 2, 1) := by decide +kernel
theorem k207_8 {d : Nat} {x : Int32} {l0 l1 l3 l4 : Option PV} {st : List PV} {M : Mem} {Q : Option PV → Mem → Prop} : WP d 207 8 [l0, l1, some (vi x), l3, l4] (st) M Q = WP d 207 9 [l0, l1, some (vi x), l3, l4] (vi x :: st) M Q := w1 mC_207 d207_8 rfl rfl
theorem d207_9 : decode cX12_common 9 = .ok (.iload_n 3, 1) := by decide +kernel
theorem k207_9 {d : Nat} {x : Int32} {l0 l1 l2 l4 : Option PV} {st : List PV} {M : Mem} {Q : Option PV → Mem → Prop} : WP d 207 9 [l0, l1, l2, some (vi x), l4] (st) M Q = WP d 207 10 [l0, l1, l2, some (vi x), l4] (vi x :: st) M Q := w1 mC_207 d207_9 rfl rfl
theorem d207_10 : decode cX12_common 10 = .ok (.irem, 1) := by decide +kernel
theorem k207_10 {d : Nat} {l0 l1 l2 l3 l4 : Option PV} {st : List PV} {M : Mem} {Q : Option PV → Mem → Prop} {x y : Int32} (h : y ≠ 0) : WP d 207 10 [l0, l1, l2, l3, l4] (vi y :: vi x :: st) M Q = WP d 207 11 [l0, l1, l2, l3, l4] (vi (x % y) :: st) M Q := w_rem mC_207 d207_10 h
theorem d207_11 : decode cX12_common 11 = .ok (.istore 4, 2) := by decide +kernel
theorem k207_11 {d : Nat} {l0 l1 l2 l3 l4 : Option PV} {st : List PV} {M : Mem} {Q : Option PV → Mem → Prop} {x : Int32} : WP d 207 11 [l0, l1, l2, l3, l4] (vi x :: st) M Q = WP d 207 13 [l0, l1, l2, l3, some (vi x)] (st) M Q := w1 mC_207 d207_11 rfl rfl
theorem d207_13 : decode cX12_common 13 = .ok (.iload_n 3, 1) := by decide +kernel
theorem k207_13 {d : Nat} {x : Int32} {l0 l1 l2 l4 : Option PV} {st : List PV} {M : Mem} {Q : Option PV → Mem → Prop} : WP d 207 13 [l0, l1, l2, some (vi x), l4] (st) M Q = WP d 207 14 [l0, l1, l2, some (vi x), l4] (vi x :: st) M Q := w1 mC_207 d207_13 rfl rfl
theorem d207_14 : decode cX12_common 14 = .ok (.istore_n 2, 1) := by decide +kernel
theorem k207_14 {d : Nat} {l0 l1 l2 l3 l4 : Option PV} {st : List PV} {M : Mem} {Q : Option PV → Mem → Prop} {x : Int32} : WP d 207 14 [l0, l1, l2, l3, l4] (vi x :: st) M Q = WP d 207 15 [l0, l1, some (vi x), l3, l4] (st) M Q := w1 mC_207 d207_14 rfl rfl
theorem d207_15 : decode cX12_common 15 = .ok (.iload 4, 2) := by decide +kernel
theorem k207_15 {d : Nat} {x : Int32} {l0 l1 l2 l3 : Option PV} {st : List PV} {M : Mem} {Q : Option PV → Mem → Prop} : WP d 207 15 [l0, l1, l2, l3, some (vi x)] (st) M Q = WP d 207 17 [l0, l1, l2, l3, some (vi x)] (vi x :: st) M Q := w1 mC_207 d207_15 rfl rfl
theorem d207_17 : decode cX12_common 17 = .ok (.istore_n 3, 1) := by decide +kernel
theorem k207_17 {d : Nat} {l0 l1 l2 l3 l4 : Option PV} {st : List PV} {M : Mem} {Q : Option PV → Mem → Prop} {x : Int32} : WP d 207 17 [l0, l1, l2, l3, l4] (vi x :: st) M Q = WP d 207 18 [l0, l1, l2, some (vi x), l4] (st) M Q := w1 mC_207 d207_17 rfl rfl
theorem d207_18 : decode cX12_common 18 = .ok (.goto (-14), 3) := by decide +kernel
theorem k207_18 {d : Nat} {l0 l1 l2 l3 l4 : Option PV} {st : List PV} {M : Mem} {Q : Option PV → Mem → Prop} : WP d 207 18 [l0, l1, l2, l3, l4] (st) M Q = WP d 207 4 [l0, l1, l2, l3, l4] (st) M Q := w_goto mC_207 d207_18 (by decide)
theorem d207_21 : decode cX12_common 21 = .ok (.iload_n 0, 1) := by decide +kernel
theorem k207_21 {d : Nat} {x : Int32} {l1 l2 l3 l4 : Option PV} {st : List PV} {M : Mem} {Q : Option PV → Mem → Prop} : WP d 207 21 [some (vi x), l1, l2, l3, l4] (st) M Q = WP d 207 22 [some (vi x), l1, l2, l3, l4] (vi x :: st) M Q := w1 mC_207 d207_21 rfl rfl
theorem d207_22 : decode cX12_common 22 = .ok (.iload_n 2, 1) := by decide +kernel
theorem k207_22 {d : Nat} {x : Int32} {l0 l1 l3 l4 : Option PV} {st : List PV} {M : Mem} {Q : Option PV → Mem → Prop} : WP d 207 22 [l0, l1, some (vi x), l3, l4] (st) M Q = WP d 207 23 [l0, l1, some (vi x), l3, l4] (vi x :: st) M Q := w1 mC_207 d207_22 rfl rfl
theorem d207_23 : decode cX12_common 23 = .ok (.idiv, 1) := by decide +kernel
theorem k207_23 {d : Nat} {l0 l1 l2 l3 l4 : Option PV} {st : List PV} {M : Mem} {Q : Option PV → Mem → Prop} {x y : Int32} (h : y ≠ 0) : WP d 207 23 [l0, l1, l2, l3, l4] (vi y :: vi x :: st) M Q = WP d 207 24 [l0, l1, l2, l3, l4] (vi (x / y) :: st) M Q := w_div mC_207 d207_23 h
theorem d207_24 : decode cX12_common 24 = .ok (.iload_n 1, 1) := by decide +kernel
theorem k207_24 {d : Nat} {x : Int32} {l0 l2 l3 l4 : Option PV} {st : List PV} {M : Mem} {Q : Option PV → Mem → Prop} : WP d 207 24 [l0, some (vi x), l2, l3, l4] (st) M Q = WP d 207 25 [l0, some (vi x), l2, l3, l4] (vi x :: st) M Q := w1 mC_207 d207_24 rfl rfl
theorem d207_25 : decode cX12_common 25 = .ok (.imul, 1) := by decide +kernel
theorem k207_25 {d : Nat} {l0 l1 l2 l3 l4 : Option PV} {st : List PV} {M : Mem} {Q : Option PV → Mem → Prop} {x y : Int32} : WP d 207 25 [l0, l1, l2, l3, l4] (vi y :: vi x :: st) M Q = WP d 207 26 [l0, l1, l2, l3, l4] (vi (x * y) :: st) M Q := w1 mC_207 d207_25 rfl rfl
theorem d207_26 : decode cX12_common 26 = .ok (.ireturn, 1) := by decide +kernel
theorem k207_26 {d : Nat} {l0 l1 l2 l3 l4 : Option PV} {M : Mem} {Q : Option PV → Mem → Prop} {x : Int32} : WP d 207 26 [l0, l1, l2, l3, l4] ([vi x]) M Q = Q (some (vi x)) M := w_iret mC_207 d207_26 rfl
theorem d208_0 : decode cX12_bars 0 = .ok (.iload_n 1, 1) := by decide +kernel
theorem k208_0 {d : Nat} {x : Int32} {l0 l2 l3 l4 l5 : Option PV} {st : List PV} {M : Mem} {Q : Option PV → Mem → Prop} : WP d 208 0 [l0, some (vi x), l2, l3, l4, l5] (st) M Q = WP d 208 1 [l0, some (vi x), l2, l3, l4, l5] (vi x :: st) M Q := w1 mC_208 d208_0 rfl rfl
theorem d208_1 : decode cX12_bars 1 = .ok (.iconst 0, 1) := by decide +kernel
theorem k208_1 {d : Nat} {l0 l1 l2 l3 l4 l5 : Option PV} {st : List PV} {M : Mem} {Q : Option PV → Mem → Prop} : WP d 208 1 [l0, l1, l2, l3, l4, l5] (st) M Q = WP d 208 2 [l0, l1, l2, l3, l4, l5] (vi 0 :: st) M Q := w_iconst mC_208 d208_1 (by decide)
theorem d208_2 : decode cX12_bars 2 = .ok (.iconst 1, 1) := by decide +kernel
theorem k208_2 {d : Nat} {l0 l1 l2 l3 l4 l5 : Option PV} {st : List PV} {M : Mem} {Q : Option PV → Mem → Prop} : WP d 208 2 [l0, l1, l2, l3, l4, l5] (st) M Q = WP d 208 3 [l0, l1, l2, l3, l4, l5] (vi 1 :: st) M Q := w_iconst mC_208 d208_2 (by decide)
theorem d208_3 : decode cX12_bars 3 = .ok (.aload_n 0, 1) := by decide +kernel
theorem k208_3 {d x : Nat} {l1 l2 l3 l4 l5 : Option PV} {st : List PV} {M : Mem} {Q : Option PV → Mem → Prop} : WP d 208 3 [some (vr x), l1, l2, l3, l4, l5] (st) M Q = WP d 208 4 [some (vr x), l1, l2, l3, l4, l5] (vr x :: st) M Q := w1 mC_208 d208_3 rfl rfl
theorem d208_4 : decode cX12_bars 4 = .ok (.getfield 108, 3) := by decide +kernel
theorem k208_4 {d : Nat} {l0 l1 l2 l3 l4 l5 : Option PV} {st : List PV} {M : Mem} {Q : Option PV → Mem → Prop} {r : Nat} (hk : mK M r = 12) : WP d 208 4 [l0, l1, l2, l3, l4, l5] (vr r :: st) M Q = WP d 208 7 [l0, l1, l2, l3, l4, l5] (vi (mI M r 1) :: st) M Q := w_get mC_208 d208_4 fE_12_108 rfl (by rw [hk]; rfl)
theorem d208_7 : decode cX12_bars 7 = .ok (.ishl, 1) := by decide +kernel
theorem k208_7 {d : Nat} {l0 l1 l2 l3 l4 l5 : Option PV} {st : List PV} {M : Mem} {Q : Option PV → Mem → Prop} {x y : Int32} : WP d 208 7 [l0, l1, l2, l3, l4, l5] (vi y :: vi x :: st) M Q = WP d 208 8 [l0, l1, l2, l3, l4, l5] (vi (x <<< (y &&& 31)) :: st) M Q := w1 mC_208 d208_7 rfl rfl
theorem d208_8 : decode cX12_bars 8 = .ok (.iconst 1, 1) := by decide +kernel
theorem k208_8 {d : Nat} {l0 l1 l2 l3 l4 l5 : Option PV} {st : List PV} {M : Mem} {Q : Option PV → Mem → Prop} : WP d 208 8 [l0, l1, l2, l3, l4, l5] (st) M Q = WP d 208 9 [l0, l1, l2, l3, l4, l5] (vi 1 :: st) M Q := w_iconst mC_208 d208_8 (by decide)
theorem d208_9 : decode cX12_bars 9 = .ok (.isub, 1) := by decide +kernel
theorem k208_9 {d : Nat} {l0 l1 l2 l3 l4 l5 : Option PV} {st : List PV} {M : Mem} {Q : Option PV → Mem → Prop} {x y : Int32} : WP d 208 9 [l0, l1, l2, l3, l4, l5] (vi y :: vi x :: st) M Q = WP d 208 10 [l0, l1, l2, l3, l4, l5] (vi (x - y) :: st) M Q := w1 mC_208 d208_9 rfl rfl
theorem d208_10 : decode cX12_bars 10 = .ok (.invokestatic 104, 3) := by decide +kernel
theorem k208_10 {d : Nat} {l0 l1 l2 l3 l4 l5 : Option PV} {st : List PV} {M : Mem} {Q : Option PV → Mem → Prop} {a0 a1 a2 : Int32} (hl : szL st ≤ 8) : WP (d + 1) 208 10 [l0, l1, l2, l3, l4, l5] (vi a2 :: vi a1 :: vi a0 :: st) M Q = WP d 145 0 [some (vi a0), some (vi a1), some (vi a2)] [] M (fun v M' => WP (d + 1) 208 13 [l0, l1, l2, l3, l4, l5] (psh v st) M' Q) := w_callS mC_208 d208_10 rfl rfl (Nat.le_of_ble_eq_true rfl) (by decide) rfl hl
theorem d208_13 : decode cX12_bars 13 = .ok (.ifCond .eq 14, 3) := by decide +kernel
theorem k208_13 {d : Nat} {l0 l1 l2 l3 l4 l5 : Option PV} {st : List PV} {M : Mem} {Q : Option PV → Mem → Prop} {x : Int32} : WP d 208 13 [l0, l1, l2, l3, l4, l5] (vi x :: st) M Q = (if x = 0 then WP d 208 27 [l0, l1, l2, l3, l4, l5] (st) M Q else WP d 208 16 [l0, l1, l2, l3, l4, l5] (st) M Q) := w_if_eq mC_208 d208_13 (by decide)
theorem d208_16 : decode cX12_bars 16 = .ok (.iload_n 2, 1) := by decide +kernel
theorem k208_16 {d : Nat} {x : Int32} {l0 l1 l3 l4 l5 : Option PV} {st : List PV} {M : Mem} {Q : Option PV → Mem → Prop} : WP d 208 16 [l0, l1, some (vi x), l3, l4, l5] (st) M Q = WP d 208 17 [l0, l1, some (vi x), l3, l4, l5] (vi x :: st) M Q := w1 mC_208 d208_16 rfl rfl
theorem d208_17 : decode cX12_bars 17 = .ok (.iconst (-1), 1) := by decide +kernel
theorem k208_17 {d : Nat} {l0 l1 l2 l3 l4 l5 : Option PV} {st : List PV} {M : Mem} {Q : Option PV → Mem → Prop} : WP d 208 17 [l0, l1, l2, l3, l4, l5] (st) M Q = WP d 208 18 [l0, l1, l2, l3, l4, l5] (vi (-1) :: st) M Q := w_iconst mC_208 d208_17 (by decide)
theorem d208_18 : decode cX12_bars 18 = .ok (.sipush 9999, 3) := by decide +kernel
theorem k208_18 {d : Nat} {l0 l1 l2 l3 l4 l5 : Option PV} {st : List PV} {M : Mem} {Q : Option PV → Mem → Prop} : WP d 208 18 [l0, l1, l2, l3, l4, l5] (st) M Q = WP d 208 21 [l0, l1, l2, l3, l4, l5] (vi 9999 :: st) M Q := w_sipush mC_208 d208_18 (by decide)
theorem d208_21 : decode cX12_bars 21 = .ok (.invokestatic 104, 3) := by decide +kernel
theorem k208_21 {d : Nat} {l0 l1 l2 l3 l4 l5 : Option PV} {st : List PV} {M : Mem} {Q : Option PV → Mem → Prop} {a0 a1 a2 : Int32} (hl : szL st ≤ 8) : WP (d + 1) 208 21 [l0, l1, l2, l3, l4, l5] (vi a2 :: vi a1 :: vi a0 :: st) M Q = WP d 145 0 [some (vi a0), some (vi a1), some (vi a2)] [] M (fun v M' => WP (d + 1) 208 24 [l0, l1, l2, l3, l4, l5] (psh v st) M' Q) := w_callS mC_208 d208_21 rfl rfl (Nat.le_of_ble_eq_true rfl) (by decide) rfl hl
theorem d208_24 : decode cX12_bars 24 = .ok (.ifCond .ne 5, 3) := by decide +kernel
theorem k208_24 {d : Nat} {l0 l1 l2 l3 l4 l5 : Option PV} {st : List PV} {M : Mem} {Q : Option PV → Mem → Prop} {x : Int32} : WP d 208 24 [l0, l1, l2, l3, l4, l5] (vi x :: st) M Q = (if x = 0 then WP d 208 27 [l0, l1, l2, l3, l4, l5] (st) M Q else WP d 208 29 [l0, l1, l2, l3, l4, l5] (st) M Q) := w_if_ne mC_208 d208_24 (by decide)
theorem d208_27 : decode cX12_bars 27 = .ok (.iconst (-1), 1) := by decide +kernel
theorem k208_27 {d : Nat} {l0 l1 l2 l3 l4 l5 : Option PV} {st : List PV} {M : Mem} {Q : Option PV → Mem → Prop} : WP d 208 27 [l0, l1, l2, l3, l4, l5] (st) M Q = WP d 208 28 [l0, l1, l2, l3, l4, l5] (vi (-1) :: st) M Q := w_iconst mC_208 d208_27 (by decide)
theorem d208_28 : decode cX12_bars 28 = .ok (.ireturn, 1) := by decide +kernel
theorem k208_28 {d : Nat} {l0 l1 l2 l3 l4 l5 : Option PV} {M : Mem} {Q : Option PV → Mem → Prop} {x : Int32} : WP d 208 28 [l0, l1, l2, l3, l4, l5] ([vi x]) M Q = Q (some (vi x)) M := w_iret mC_208 d208_28 rfl
theorem d208_29 : decode cX12_bars 29 = .ok (.iconst 1, 1) := by decide +kernel
theorem k208_29 {d : Nat} {l0 l1 l2 l3 l4 l5 : Option PV} {st : List PV} {M : Mem} {Q : Option PV → Mem → Prop} : WP d 208 29 [l0, l1, l2, l3, l4, l5] (st) M Q = WP d 208 30 [l0, l1, l2, l3, l4, l5] (vi 1 :: st) M Q := w_iconst mC_208 d208_29 (by decide)
theorem d208_30 : decode cX12_bars 30 = .ok (.istore_n 3, 1) := by decide +kernel
theorem k208_30 {d : Nat} {l0 l1 l2 l3 l4 l5 : Option PV} {st : List PV} {M : Mem} {Q : Option PV → Mem → Prop} {x : Int32} : WP d 208 30 [l0, l1, l2, l3, l4, l5] (vi x :: st) M Q = WP d 208 31 [l0, l1, l2, some (vi x), l4, l5] (st) M Q := w1 mC_208 d208_30 rfl rfl
theorem d208_31 : decode cX12_bars 31 = .ok (.iconst 0, 1) := by decide +kernel
theorem k208_31 {d : Nat} {l0 l1 l2 l3 l4 l5 : Option PV} {st : List PV} {M : Mem} {Q : Option PV → Mem → Prop} : WP d 208 31 [l0, l1, l2, l3, l4, l5] (st) M Q = WP d 208 32 [l0, l1, l2, l3, l4, l5] (vi 0 :: st) M Q := w_iconst mC_208 d208_31 (by decide)
theorem d208_32 : decode cX12_bars 32 = .ok (.istore 4, 2) := by decide +kernel
theorem k208_32 {d : Nat} {l0 l1 l2 l3 l4 l5 : Option PV} {st : List PV} {M : Mem} {Q : Option PV → Mem → Prop} {x : Int32} : WP d 208 32 [l0, l1, l2, l3, l4, l5] (vi x :: st) M Q = WP d 208 34 [l0, l1, l2, l3, some (vi x), l5] (st) M Q := w1 mC_208 d208_32 rfl rfl
theorem d208_34 : decode cX12_bars 34 = .ok (.iconst 0, 1) := by decide +kernel
theorem k208_34 {d : Nat} {l0 l1 l2 l3 l4 l5 : Option PV} {st : List PV} {M : Mem} {Q : Option PV → Mem → Prop} : WP d 208 34 [l0, l1, l2, l3, l4, l5] (st) M Q = WP d 208 35 [l0, l1, l2, l3, l4, l5] (vi 0 :: st) M Q := w_iconst mC_208 d208_34 (by decide)
theorem d208_35 : decode cX12_bars 35 = .ok (.istore 5, 2) := by decide +kernel
theorem k208_35 {d : Nat} {l0 l1 l2 l3 l4 l5 : Option PV} {st : List PV} {M : Mem} {Q : Option PV → Mem → Prop} {x : Int32} : WP d 208 35 [l0, l1, l2, l3, l4, l5] (vi x :: st) M Q = WP d 208 37 [l0, l1, l2, l3, l4, some (vi x)] (st) M Q := w1 mC_208 d208_35 rfl rfl
theorem d208_37 : decode cX12_bars 37 = .ok (.iload 5, 2) := by decide +kernel
theorem k208_37 {d : Nat} {x : Int32} {l0 l1 l2 l3 l4 : Option PV} {st : List PV} {M : Mem} {Q : Option PV → Mem → Prop} : WP d 208 37 [l0, l1, l2, l3, l4, some (vi x)] (st) M Q = WP d 208 39 [l0, l1, l2, l3, l4, some (vi x)] (vi x :: st) M Q := w1 mC_208 d208_37 rfl rfl
theorem d208_39 : decode cX12_bars 39 = .ok (.aload_n 0, 1) := by decide +kernel
theorem k208_39 {d x : Nat} {l1 l2 l3 l4 l5 : Option PV} {st : List PV} {M : Mem} {Q : Option PV → Mem → Prop} : WP d 208 39 [some (vr x), l1, l2, l3, l4, l5] (st) M Q = WP d 208 40 [some (vr x), l1, l2, l3, l4, l5] (vr x :: st) M Q := w1 mC_208 d208_39 rfl rfl
theorem d208_40 : decode cX12_bars 40 = .ok (.getfield 108, 3) := by decide +kernel
theorem k208_40 {d : Nat} {l0 l1 l2 l3 l4 l5 : Option PV} {st : List PV} {M : Mem} {Q : Option PV → Mem → Prop} {r : Nat} (hk : mK M r = 12) : WP d 208 40 [l0, l1, l2, l3, l4, l5] (vr r :: st) M Q = WP d 208 43 [l0, l1, l2, l3, l4, l5] (vi (mI M r 1) :: st) M Q := w_get mC_208 d208_40 fE_12_108 rfl (by rw [hk]; rfl)
theorem d208_43 : decode cX12_bars 43 = .ok (.if_icmp .ge 62, 3) := by decide +kernel
theorem k208_43 {d : Nat} {l0 l1 l2 l3 l4 l5 : Option PV} {st : List PV} {M : Mem} {Q : Option PV → Mem → Prop} {x y : Int32} : WP d 208 43 [l0, l1, l2, l3, l4, l5] (vi y :: vi x :: st) M Q = (if y ≤ x then WP d 208 105 [l0, l1, l2, l3, l4, l5] (st) M Q else WP d 208 46 [l0, l1, l2, l3, l4, l5] (st) M Q) := w_ic_ge mC_208 d208_43 (by decide)
theorem d208_46 : decode cX12_bars 46 = .ok (.iload_n 1, 1) := by decide +kernel
theorem k208_46 {d : Nat} {x : Int32} {l0 l2 l3 l4 l5 : Option PV} {st : List PV} {M : Mem} {Q : Option PV → Mem → Prop} : WP d 208 46 [l0, some (vi x), l2, l3, l4, l5] (st) M Q = WP d 208 47 [l0, some (vi x), l2, l3, l4, l5] (vi x :: st) M Q := w1 mC_208 d208_46 rfl rfl
theorem d208_47 : decode cX12_bars 47 = .ok (.iload 5, 2) := by decide +kernel
theorem k208_47 {d : Nat} {x : Int32} {l0 l1 l2 l3 l4 : Option PV} {st : List PV} {M : Mem} {Q : Option PV → Mem → Prop} : WP d 208 47 [l0, l1, l2, l3, l4, some (vi x)] (st) M Q = WP d 208 49 [l0, l1, l2, l3, l4, some (vi x)] (vi x :: st) M Q := w1 mC_208 d208_47 rfl rfl
theorem d208_49 : decode cX12_bars 49 = .ok (.ishr, 1) := by decide +kernel
theorem k208_49 {d : Nat} {l0 l1 l2 l3 l4 l5 : Option PV} {st : List PV} {M : Mem} {Q : Option PV → Mem → Prop} {x y : Int32} : WP d 208 49 [l0, l1, l2, l3, l4, l5] (vi y :: vi x :: st) M Q = WP d 208 50 [l0, l1, l2, l3, l4, l5] (vi (x >>> (y &&& 31)) :: st) M Q := w1 mC_208 d208_49 rfl rfl
theorem d208_50 : decode cX12_bars 50 = .ok (.iconst 1, 1) := by decide +kernel
theorem k208_50 {d : Nat} {l0 l1 l2 l3 l4 l5 : Option PV} {st : List PV} {M : Mem} {Q : Option PV → Mem → Prop} : WP d 208 50 [l0, l1, l2, l3, l4, l5] (st) M Q = WP d 208 51 [l0, l1, l2, l3, l4, l5] (vi 1 :: st) M Q := w_iconst mC_208 d208_50 (by decide)
theorem d208_51 : decode cX12_bars 51 = .ok (.iand, 1) := by decide +kernel
theorem k208_51 {d : Nat} {l0 l1 l2 l3 l4 l5 : Option PV} {st : List PV} {M : Mem} {Q : Option PV → Mem → Prop} {x y : Int32} : WP d 208 51 [l0, l1, l2, l3, l4, l5] (vi y :: vi x :: st) M Q = WP d 208 52 [l0, l1, l2, l3, l4, l5] (vi (x &&& y) :: st) M Q := w1 mC_208 d208_51 rfl rfl
theorem d208_52 : decode cX12_bars 52 = .ok (.ifCond .ne 6, 3) := by decide +kernel
theorem k208_52 {d : Nat} {l0 l1 l2 l3 l4 l5 : Option PV} {st : List PV} {M : Mem} {Q : Option PV → Mem → Prop} {x : Int32} : WP d 208 52 [l0, l1, l2, l3, l4, l5] (vi x :: st) M Q = (if x = 0 then WP d 208 55 [l0, l1, l2, l3, l4, l5] (st) M Q else WP d 208 58 [l0, l1, l2, l3, l4, l5] (st) M Q) := w_if_ne mC_208 d208_52 (by decide)
theorem d208_55 : decode cX12_bars 55 = .ok (.goto 44, 3) := by decide +kernel
theorem k208_55 {d : Nat} {l0 l1 l2 l3 l4 l5 : Option PV} {st : List PV} {M : Mem} {Q : Option PV → Mem → Prop} : WP d 208 55 [l0, l1, l2, l3, l4, l5] (st) M Q = WP d 208 99 [l0, l1, l2, l3, l4, l5] (st) M Q := w_goto mC_208 d208_55 (by decide)
theorem d208_58 : decode cX12_bars 58 = .ok (.iload_n 3, 1) := by decide +kernel
theorem k208_58 {d : Nat} {x : Int32} {l0 l1 l2 l4 l5 : Option PV} {st : List PV} {M : Mem} {Q : Option PV → Mem → Prop} : WP d 208 58 [l0, l1, l2, some (vi x), l4, l5] (st) M Q = WP d 208 59 [l0, l1, l2, some (vi x), l4, l5] (vi x :: st) M Q := w1 mC_208 d208_58 rfl rfl
theorem d208_59 : decode cX12_bars 59 = .ok (.aload_n 0, 1) := by decide +kernel
theorem k208_59 {d x : Nat} {l1 l2 l3 l4 l5 : Option PV} {st : List PV} {M : Mem} {Q : Option PV → Mem → Prop} : WP d 208 59 [some (vr x), l1, l2, l3, l4, l5] (st) M Q = WP d 208 60 [some (vr x), l1, l2, l3, l4, l5] (vr x :: st) M Q := w1 mC_208 d208_59 rfl rfl
theorem d208_60 : decode cX12_bars 60 = .ok (.getfield 9, 3) := by decide +kernel
theorem k208_60 {d : Nat} {l0 l1 l2 l3 l4 l5 : Option PV} {st : List PV} {M : Mem} {Q : Option PV → Mem → Prop} {r : Nat} (hk : mK M r = 12) : WP d 208 60 [l0, l1, l2, l3, l4, l5] (vr r :: st) M Q = WP d 208 63 [l0, l1, l2, l3, l4, l5] (vr (mR M r 2) :: st) M Q := w_getr mC_208 d208_60 fE_12_9 rfl (by rw [hk]; rfl)
theorem d208_63 : decode cX12_bars 63 = .ok (.bipush 24, 2) := by decide +kernel
theorem k208_63 {d : Nat} {l0 l1 l2 l3 l4 l5 : Option PV} {st : List PV} {M : Mem} {Q : Option PV → Mem → Prop} : WP d 208 63 [l0, l1, l2, l3, l4, l5] (st) M Q = WP d 208 65 [l0, l1, l2, l3, l4, l5] (vi 24 :: st) M Q := w_bipush mC_208 d208_63 (by decide)
theorem d208_65 : decode cX12_bars 65 = .ok (.iload 5, 2) := by decide +kernel
theorem k208_65 {d : Nat} {x : Int32} {l0 l1 l2 l3 l4 : Option PV} {st : List PV} {M : Mem} {Q : Option PV → Mem → Prop} : WP d 208 65 [l0, l1, l2, l3, l4, some (vi x)] (st) M Q = WP d 208 67 [l0, l1, l2, l3, l4, some (vi x)] (vi x :: st) M Q := w1 mC_208 d208_65 rfl rfl
theorem d208_67 : decode cX12_bars 67 = .ok (.iadd, 1) := by decide +kernel
theorem k208_67 {d : Nat} {l0 l1 l2 l3 l4 l5 : Option PV} {st : List PV} {M : Mem} {Q : Option PV → Mem → Prop} {x y : Int32} : WP d 208 67 [l0, l1, l2, l3, l4, l5] (vi y :: vi x :: st) M Q = WP d 208 68 [l0, l1, l2, l3, l4, l5] (vi (x + y) :: st) M Q := w1 mC_208 d208_67 rfl rfl
theorem d208_68 : decode cX12_bars 68 = .ok (.iaload, 1) := by decide +kernel
theorem k208_68 {d : Nat} {l0 l1 l2 l3 l4 l5 : Option PV} {st : List PV} {M : Mem} {Q : Option PV → Mem → Prop} {r : Nat} {j : Int32} (hk : mK M r = 13) (hj : inb j (mN M r)) (h1 : r ≠ 1) : WP d 208 68 [l0, l1, l2, l3, l4, l5] (vi j :: vr r :: st) M Q = WP d 208 69 [l0, l1, l2, l3, l4, l5] (vi (mI M r (ix j)) :: st) M Q := w_iald mC_208 d208_68 (by decide) hk hj h1
theorem d208_69 : decode cX12_bars 69 = .ok (.iconst 1, 1) := by decide +kernel
theorem k208_69 {d : Nat} {l0 l1 l2 l3 l4 l5 : Option PV} {st : List PV} {M : Mem} {Q : Option PV → Mem → Prop} : WP d 208 69 [l0, l1, l2, l3, l4, l5] (st) M Q = WP d 208 70 [l0, l1, l2, l3, l4, l5] (vi 1 :: st) M Q := w_iconst mC_208 d208_69 (by decide)
theorem d208_70 : decode cX12_bars 70 = .ok (.iadd, 1) := by decide +kernel
theorem k208_70 {d : Nat} {l0 l1 l2 l3 l4 l5 : Option PV} {st : List PV} {M : Mem} {Q : Option PV → Mem → Prop} {x y : Int32} : WP d 208 70 [l0, l1, l2, l3, l4, l5] (vi y :: vi x :: st) M Q = WP d 208 71 [l0, l1, l2, l3, l4, l5] (vi (x + y) :: st) M Q := w1 mC_208 d208_70 rfl rfl
theorem d208_71 : decode cX12_bars 71 = .ok (.invokestatic 305, 3) := by decide +kernel
theorem k208_71 {d : Nat} {l0 l1 l2 l3 l4 l5 : Option PV} {st : List PV} {M : Mem} {Q : Option PV → Mem → Prop} {a0 a1 : Int32} (hl : szL st ≤ 8) : WP (d + 1) 208 71 [l0, l1, l2, l3, l4, l5] (vi a1 :: vi a0 :: st) M Q = WP d 207 0 [some (vi a0), some (vi a1), none, none, none] [] M (fun v M' => WP (d + 1) 208 74 [l0, l1, l2, l3, l4, l5] (psh v st) M' Q) := w_callS mC_208 d208_71 rfl rfl (Nat.le_of_ble_eq_true rfl) (by decide) rfl hl
theorem d208_74 : decode cX12_bars 74 = .ok (.istore_n 3, 1) := by decide +kernel
theorem k208_74 {d : Nat} {l0 l1 l2 l3 l4 l5 : Option PV} {st : List PV} {M : Mem} {Q : Option PV → Mem → Prop} {x : Int32} : WP d 208 74 [l0, l1, l2, l3, l4, l5] (vi x :: st) M Q = WP d 208 75 [l0, l1, l2, some (vi x), l4, l5] (st) M Q := w1 mC_208 d208_74 rfl rfl
theorem d208_75 : decode cX12_bars 75 = .ok (.iload_n 2, 1) := by decide +kernel
theorem k208_75 {d : Nat} {x : Int32} {l0 l1 l3 l4 l5 : Option PV} {st : List PV} {M : Mem} {Q : Option PV → Mem → Prop} : WP d 208 75 [l0, l1, some (vi x), l3, l4, l5] (st) M Q = WP d 208 76 [l0, l1, some (vi x), l3, l4, l5] (vi x :: st) M Q := w1 mC_208 d208_75 rfl rfl
theorem d208_76 : decode cX12_bars 76 = .ok (.ifCond .lt 23, 3) := by decide +kernel
theorem k208_76 {d : Nat} {l0 l1 l2 l3 l4 l5 : Option PV} {st : List PV} {M : Mem} {Q : Option PV → Mem → Prop} {x : Int32} : WP d 208 76 [l0, l1, l2, l3, l4, l5] (vi x :: st) M Q = (if x < 0 then WP d 208 99 [l0, l1, l2, l3, l4, l5] (st) M Q else WP d 208 79 [l0, l1, l2, l3, l4, l5] (st) M Q) := w_if_lt mC_208 d208_76 (by decide)
theorem d208_79 : decode cX12_bars 79 = .ok (.iload_n 2, 1) := by decide +kernel
theorem k208_79 {d : Nat} {x : Int32} {l0 l1 l3 l4 l5 : Option PV} {st : List PV} {M : Mem} {Q : Option PV → Mem → Prop} : WP d 208 79 [l0, l1, some (vi x), l3, l4, l5] (st) M Q = WP d 208 80 [l0, l1, some (vi x), l3, l4, l5] (vi x :: st) M Q := w1 mC_208 d208_79 rfl rfl
theorem d208_80 : decode cX12_bars 80 = .ok (.aload_n 0, 1) := by decide +kernel
theorem k208_80 {d x : Nat} {l1 l2 l3 l4 l5 : Option PV} {st : List PV} {M : Mem} {Q : Option PV → Mem → Prop} : WP d 208 80 [some (vr x), l1, l2, l3, l4, l5] (st) M Q = WP d 208 81 [some (vr x), l1, l2, l3, l4, l5] (vr x :: st) M Q := w1 mC_208 d208_80 rfl rfl
theorem d208_81 : decode cX12_bars 81 = .ok (.getfield 9, 3) := by decide +kernel
theorem k208_81 {d : Nat} {l0 l1 l2 l3 l4 l5 : Option PV} {st : List PV} {M : Mem} {Q : Option PV → Mem → Prop} {r : Nat} (hk : mK M r = 12) : WP d 208 81 [l0, l1, l2, l3, l4, l5] (vr r :: st) M Q = WP d 208 84 [l0, l1, l2, l3, l4, l5] (vr (mR M r 2) :: st) M Q := w_getr mC_208 d208_81 fE_12_9 rfl (by rw [hk]; rfl)
theorem d208_84 : decode cX12_bars 84 = .ok (.bipush 24, 2) := by decide +kernel
theorem k208_84 {d : Nat} {l0 l1 l2 l3 l4 l5 : Option PV} {st : List PV} {M : Mem} {Q : Option PV → Mem → Prop} : WP d 208 84 [l0, l1, l2, l3, l4, l5] (st) M Q = WP d 208 86 [l0, l1, l2, l3, l4, l5] (vi 24 :: st) M Q := w_bipush mC_208 d208_84 (by decide)
theorem d208_86 : decode cX12_bars 86 = .ok (.iload 5, 2) := by decide +kernel
theorem k208_86 {d : Nat} {x : Int32} {l0 l1 l2 l3 l4 : Option PV} {st : List PV} {M : Mem} {Q : Option PV → Mem → Prop} : WP d 208 86 [l0, l1, l2, l3, l4, some (vi x)] (st) M Q = WP d 208 88 [l0, l1, l2, l3, l4, some (vi x)] (vi x :: st) M Q := w1 mC_208 d208_86 rfl rfl
theorem d208_88 : decode cX12_bars 88 = .ok (.iadd, 1) := by decide +kernel
theorem k208_88 {d : Nat} {l0 l1 l2 l3 l4 l5 : Option PV} {st : List PV} {M : Mem} {Q : Option PV → Mem → Prop} {x y : Int32} : WP d 208 88 [l0, l1, l2, l3, l4, l5] (vi y :: vi x :: st) M Q = WP d 208 89 [l0, l1, l2, l3, l4, l5] (vi (x + y) :: st) M Q := w1 mC_208 d208_88 rfl rfl
theorem d208_89 : decode cX12_bars 89 = .ok (.iaload, 1) := by decide +kernel
theorem k208_89 {d : Nat} {l0 l1 l2 l3 l4 l5 : Option PV} {st : List PV} {M : Mem} {Q : Option PV → Mem → Prop} {r : Nat} {j : Int32} (hk : mK M r = 13) (hj : inb j (mN M r)) (h1 : r ≠ 1) : WP d 208 89 [l0, l1, l2, l3, l4, l5] (vi j :: vr r :: st) M Q = WP d 208 90 [l0, l1, l2, l3, l4, l5] (vi (mI M r (ix j)) :: st) M Q := w_iald mC_208 d208_89 (by decide) hk hj h1
theorem d208_90 : decode cX12_bars 90 = .ok (.iconst 1, 1) := by decide +kernel
theorem k208_90 {d : Nat} {l0 l1 l2 l3 l4 l5 : Option PV} {st : List PV} {M : Mem} {Q : Option PV → Mem → Prop} : WP d 208 90 [l0, l1, l2, l3, l4, l5] (st) M Q = WP d 208 91 [l0, l1, l2, l3, l4, l5] (vi 1 :: st) M Q := w_iconst mC_208 d208_90 (by decide)
theorem d208_91 : decode cX12_bars 91 = .ok (.iadd, 1) := by decide +kernel
theorem k208_91 {d : Nat} {l0 l1 l2 l3 l4 l5 : Option PV} {st : List PV} {M : Mem} {Q : Option PV → Mem → Prop} {x y : Int32} : WP d 208 91 [l0, l1, l2, l3, l4, l5] (vi y :: vi x :: st) M Q = WP d 208 92 [l0, l1, l2, l3, l4, l5] (vi (x + y) :: st) M Q := w1 mC_208 d208_91 rfl rfl
theorem d208_92 : decode cX12_bars 92 = .ok (.irem, 1) := by decide +kernel
theorem k208_92 {d : Nat} {l0 l1 l2 l3 l4 l5 : Option PV} {st : List PV} {M : Mem} {Q : Option PV → Mem → Prop} {x y : Int32} (h : y ≠ 0) : WP d 208 92 [l0, l1, l2, l3, l4, l5] (vi y :: vi x :: st) M Q = WP d 208 93 [l0, l1, l2, l3, l4, l5] (vi (x % y) :: st) M Q := w_rem mC_208 d208_92 h
theorem d208_93 : decode cX12_bars 93 = .ok (.ifCond .ne 6, 3) := by decide +kernel
theorem k208_93 {d : Nat} {l0 l1 l2 l3 l4 l5 : Option PV} {st : List PV} {M : Mem} {Q : Option PV → Mem → Prop} {x : Int32} : WP d 208 93 [l0, l1, l2, l3, l4, l5] (vi x :: st) M Q = (if x = 0 then WP d 208 96 [l0, l1, l2, l3, l4, l5] (st) M Q else WP d 208 99 [l0, l1, l2, l3, l4, l5] (st) M Q) := w_if_ne mC_208 d208_93 (by decide)
theorem d208_96 : decode cX12_bars 96 = .ok (.iinc 4 1, 3) := by decide +kernel
theorem k208_96 {d : Nat} {x : Int32} {l0 l1 l2 l3 l5 : Option PV} {st : List PV} {M : Mem} {Q : Option PV → Mem → Prop} : WP d 208 96 [l0, l1, l2, l3, some (vi x), l5] (st) M Q = WP d 208 99 [l0, l1, l2, l3, some (vi (x + 1)), l5] (st) M Q := w_iinc mC_208 d208_96 rfl (by decide) rfl
theorem d208_99 : decode cX12_bars 99 = .ok (.iinc 5 1, 3) := by decide +kernel
theorem k208_99 {d : Nat} {x : Int32} {l0 l1 l2 l3 l4 : Option PV} {st : List PV} {M : Mem} {Q : Option PV → Mem → Prop} : WP d 208 99 [l0, l1, l2, l3, l4, some (vi x)] (st) M Q = WP d 208 102 [l0, l1, l2, l3, l4, some (vi (x + 1))] (st) M Q := w_iinc mC_208 d208_99 rfl (by decide) rfl
theorem d208_102 : decode cX12_bars 102 = .ok (.goto (-65), 3) := by decide +kernel
theorem k208_102 {d : Nat} {l0 l1 l2 l3 l4 l5 : Option PV} {st : List PV} {M : Mem} {Q : Option PV → Mem → Prop} : WP d 208 102 [l0, l1, l2, l3, l4, l5] (st) M Q = WP d 208 37 [l0, l1, l2, l3, l4, l5] (st) M Q := w_goto mC_208 d208_102 (by decide)
theorem d208_105 : decode cX12_bars 105 = .ok (.iload_n 2, 1) := by decide +kernel
theorem k208_105 {d : Nat} {x : Int32} {l0 l1 l3 l4 l5 : Option PV} {st : List PV} {M : Mem} {Q : Option PV → Mem → Prop} : WP d 208 105 [l0, l1, some (vi x), l3, l4, l5] (st) M Q = WP d 208 106 [l0, l1, some (vi x), l3, l4, l5] (vi x :: st) M Q := w1 mC_208 d208_105 rfl rfl
theorem d208_106 : decode cX12_bars 106 = .ok (.iconst (-1), 1) := by decide +kernel
theorem k208_106 {d : Nat} {l0 l1 l2 l3 l4 l5 : Option PV} {st : List PV} {M : Mem} {Q : Option PV → Mem → Prop} : WP d 208 106 [l0, l1, l2, l3, l4, l5] (st) M Q = WP d 208 107 [l0, l1, l2, l3, l4, l5] (vi (-1) :: st) M Q := w_iconst mC_208 d208_106 (by decide)
theorem d208_107 : decode cX12_bars 107 = .ok (.if_icmp .ne 7, 3) := by decide +kernel
theorem k208_107 {d : Nat} {l0 l1 l2 l3 l4 l5 : Option PV} {st : List PV} {M : Mem} {Q : Option PV → Mem → Prop} {x y : Int32} : WP d 208 107 [l0, l1, l2, l3, l4, l5] (vi y :: vi x :: st) M Q = (if x = y then WP d 208 110 [l0, l1, l2, l3, l4, l5] (st) M Q else WP d 208 114 [l0, l1, l2, l3, l4, l5] (st) M Q) := w_ic_ne mC_208 d208_107 (by decide)
theorem d208_110 : decode cX12_bars 110 = .ok (.iload_n 3, 1) := by decide +kernel
theorem k208_110 {d : Nat} {x : Int32} {l0 l1 l2 l4 l5 : Option PV} {st : List PV} {M : Mem} {Q : Option PV → Mem → Prop} : WP d 208 110 [l0, l1, l2, some (vi x), l4, l5] (st) M Q = WP d 208 111 [l0, l1, l2, some (vi x), l4, l5] (vi x :: st) M Q := w1 mC_208 d208_110 rfl rfl
theorem d208_111 : decode cX12_bars 111 = .ok (.goto 5, 3) := by decide +kernel
theorem k208_111 {d : Nat} {l0 l1 l2 l3 l4 l5 : Option PV} {st : List PV} {M : Mem} {Q : Option PV → Mem → Prop} : WP d 208 111 [l0, l1, l2, l3, l4, l5] (st) M Q = WP d 208 116 [l0, l1, l2, l3, l4, l5] (st) M Q := w_goto mC_208 d208_111 (by decide)
theorem d208_114 : decode cX12_bars 114 = .ok (.iload 4, 2) := by decide +kernel
theorem k208_114 {d : Nat} {x : Int32} {l0 l1 l2 l3 l5 : Option PV} {st : List PV} {M : Mem} {Q : Option PV → Mem → Prop} : WP d 208 114 [l0, l1, l2, l3, some (vi x), l5] (st) M Q = WP d 208 116 [l0, l1, l2, l3, some (vi x), l5] (vi x :: st) M Q := w1 mC_208 d208_114 rfl rfl
theorem d208_116 : decode cX12_bars 116 = .ok (.ireturn, 1) := by decide +kernel
theorem k208_116 {d : Nat} {l0 l1 l2 l3 l4 l5 : Option PV} {M : Mem} {Q : Option PV → Mem → Prop} {x : Int32} : WP d 208 116 [l0, l1, l2, l3, l4, l5] ([vi x]) M Q = Q (some (vi x)) M := w_iret mC_208 d208_116 rfl
theorem d209_0 : decode cX12_areNear 0 = .ok (.iconst 0, 1) := by decide +kernel
theorem k209_0 {d : Nat} {l0 l1 l2 l3 l4 l5 : Option PV} {st : List PV} {M : Mem} {Q : Option PV → Mem → Prop} : WP d 209 0 [l0, l1, l2, l3, l4, l5] (st) M Q = WP d 209 1 [l0, l1, l2, l3, l4, l5] (vi 0 :: st) M Q := w_iconst mC_209 d209_0 (by decide)
theorem d209_1 : decode cX12_areNear 1 = .ok (.istore_n 3, 1) := by decide +kernel
theorem k209_1 {d : Nat} {l0 l1 l2 l3 l4 l5 : Option PV} {st : List PV} {M : Mem} {Q : Option PV → Mem → Prop} {x : Int32} : WP d 209 1 [l0, l1, l2, l3, l4, l5] (vi x :: st) M Q = WP d 209 2 [l0, l1, l2, some (vi x), l4, l5] (st) M Q := w1 mC_209 d209_1 rfl rfl
theorem d209_2 : decode cX12_areNear 2 = .ok (.iload_n 3, 1) := by decide +kernel
theorem k209_2 {d : Nat} {x : Int32} {l0 l1 l2 l4 l5 : Option PV} {st : List PV} {M : Mem} {Q : Option PV → Mem → Prop} : WP d 209 2 [l0, l1, l2, some (vi x), l4, l5] (st) M Q = WP d 209 3 [l0, l1, l2, some (vi x), l4, l5] (vi x :: st) M Q := w1 mC_209 d209_2 rfl rfl
theorem d209_3 : decode cX12_areNear 3 = .ok (.aload_n 0, 1) := by decide +kernel
theorem k209_3 {d x : Nat} {l1 l2 l3 l4 l5 : Option PV} {st : List PV} {M : Mem} {Q : Option PV → Mem → Prop} : WP d 209 3 [some (vr x), l1, l2, l3, l4, l5] (st) M Q = WP d 209 4 [some (vr x), l1, l2, l3, l4, l5] (vr x :: st) M Q := w1 mC_209 d209_3 rfl rfl
theorem d209_4 : decode cX12_areNear 4 = .ok (.getfield 108, 3) := by decide +kernel
theorem k209_4 {d : Nat} {l0 l1 l2 l3 l4 l5 : Option PV} {st : List PV} {M : Mem} {Q : Option PV → Mem → Prop} {r : Nat} (hk : mK M r = 12) : WP d 209 4 [l0, l1, l2, l3, l4, l5] (vr r :: st) M Q = WP d 209 7 [l0, l1, l2, l3, l4, l5] (vi (mI M r 1) :: st) M Q := w_get mC_209 d209_4 fE_12_108 rfl (by rw [hk]; rfl)
theorem d209_7 : decode cX12_areNear 7 = .ok (.if_icmp .ge 76, 3) := by decide +kernel
theorem k209_7 {d : Nat} {l0 l1 l2 l3 l4 l5 : Option PV} {st : List PV} {M : Mem} {Q : Option PV → Mem → Prop} {x y : Int32} : WP d 209 7 [l0, l1, l2, l3, l4, l5] (vi y :: vi x :: st) M Q = (if y ≤ x then WP d 209 83 [l0, l1, l2, l3, l4, l5] (st) M Q else WP d 209 10 [l0, l1, l2, l3, l4, l5] (st) M Q) := w_ic_ge mC_209 d209_7 (by decide)
theorem d209_10 : decode cX12_areNear 10 = .ok (.iconst 0, 1) := by decide +kernel
theorem k209_10 {d : Nat} {l0 l1 l2 l3 l4 l5 : Option PV} {st : List PV} {M : Mem} {Q : Option PV → Mem → Prop} : WP d 209 10 [l0, l1, l2, l3, l4, l5] (st) M Q = WP d 209 11 [l0, l1, l2, l3, l4, l5] (vi 0 :: st) M Q := w_iconst mC_209 d209_10 (by decide)
theorem d209_11 : decode cX12_areNear 11 = .ok (.istore 4, 2) := by decide +kernel
theorem k209_11 {d : Nat} {l0 l1 l2 l3 l4 l5 : Option PV} {st : List PV} {M : Mem} {Q : Option PV → Mem → Prop} {x : Int32} : WP d 209 11 [l0, l1, l2, l3, l4, l5] (vi x :: st) M Q = WP d 209 13 [l0, l1, l2, l3, some (vi x), l5] (st) M Q := w1 mC_209 d209_11 rfl rfl
theorem d209_13 : decode cX12_areNear 13 = .ok (.iconst 0, 1) := by decide +kernel
theorem k209_13 {d : Nat} {l0 l1 l2 l3 l4 l5 : Option PV} {st : List PV} {M : Mem} {Q : Option PV → Mem → Prop} : WP d 209 13 [l0, l1, l2, l3, l4, l5] (st) M Q = WP d 209 14 [l0, l1, l2, l3, l4, l5] (vi 0 :: st) M Q := w_iconst mC_209 d209_13 (by decide)
theorem d209_14 : decode cX12_areNear 14 = .ok (.istore 5, 2) := by decide +kernel
theorem k209_14 {d : Nat} {l0 l1 l2 l3 l4 l5 : Option PV} {st : List PV} {M : Mem} {Q : Option PV → Mem → Prop} {x : Int32} : WP d 209 14 [l0, l1, l2, l3, l4, l5] (vi x :: st) M Q = WP d 209 16 [l0, l1, l2, l3, l4, some (vi x)] (st) M Q := w1 mC_209 d209_14 rfl rfl
theorem d209_16 : decode cX12_areNear 16 = .ok (.iload 5, 2) := by decide +kernel
theorem k209_16 {d : Nat} {x : Int32} {l0 l1 l2 l3 l4 : Option PV} {st : List PV} {M : Mem} {Q : Option PV → Mem → Prop} : WP d 209 16 [l0, l1, l2, l3, l4, some (vi x)] (st) M Q = WP d 209 18 [l0, l1, l2, l3, l4, some (vi x)] (vi x :: st) M Q := w1 mC_209 d209_16 rfl rfl
theorem d209_18 : decode cX12_areNear 18 = .ok (.aload_n 0, 1) := by decide +kernel
theorem k209_18 {d x : Nat} {l1 l2 l3 l4 l5 : Option PV} {st : List PV} {M : Mem} {Q : Option PV → Mem → Prop} : WP d 209 18 [some (vr x), l1, l2, l3, l4, l5] (st) M Q = WP d 209 19 [some (vr x), l1, l2, l3, l4, l5] (vr x :: st) M Q := w1 mC_209 d209_18 rfl rfl
theorem d209_19 : decode cX12_areNear 19 = .ok (.getfield 108, 3) := by decide +kernel
theorem k209_19 {d : Nat} {l0 l1 l2 l3 l4 l5 : Option PV} {st : List PV} {M : Mem} {Q : Option PV → Mem → Prop} {r : Nat} (hk : mK M r = 12) : WP d 209 19 [l0, l1, l2, l3, l4, l5] (vr r :: st) M Q = WP d 209 22 [l0, l1, l2, l3, l4, l5] (vi (mI M r 1) :: st) M Q := w_get mC_209 d209_19 fE_12_108 rfl (by rw [hk]; rfl)
theorem d209_22 : decode cX12_areNear 22 = .ok (.if_icmp .ge 48, 3) := by decide +kernel
theorem k209_22 {d : Nat} {l0 l1 l2 l3 l4 l5 : Option PV} {st : List PV} {M : Mem} {Q : Option PV → Mem → Prop} {x y : Int32} : WP d 209 22 [l0, l1, l2, l3, l4, l5] (vi y :: vi x :: st) M Q = (if y ≤ x then WP d 209 70 [l0, l1, l2, l3, l4, l5] (st) M Q else WP d 209 25 [l0, l1, l2, l3, l4, l5] (st) M Q) := w_ic_ge mC_209 d209_22 (by decide)
theorem d209_25 : decode cX12_areNear 25 = .ok (.iload_n 1, 1) := by decide +kernel
theorem k209_25 {d : Nat} {x : Int32} {l0 l2 l3 l4 l5 : Option PV} {st : List PV} {M : Mem} {Q : Option PV → Mem → Prop} : WP d 209 25 [l0, some (vi x), l2, l3, l4, l5] (st) M Q = WP d 209 26 [l0, some (vi x), l2, l3, l4, l5] (vi x :: st) M Q := w1 mC_209 d209_25 rfl rfl
theorem d209_26 : decode cX12_areNear 26 = .ok (.iload 5, 2) := by decide +kernel
theorem k209_26 {d : Nat} {x : Int32} {l0 l1 l2 l3 l4 : Option PV} {st : List PV} {M : Mem} {Q : Option PV → Mem → Prop} : WP d 209 26 [l0, l1, l2, l3, l4, some (vi x)] (st) M Q = WP d 209 28 [l0, l1, l2, l3, l4, some (vi x)] (vi x :: st) M Q := w1 mC_209 d209_26 rfl rfl
theorem d209_28 : decode cX12_areNear 28 = .ok (.ishr, 1) := by decide +kernel
theorem k209_28 {d : Nat} {l0 l1 l2 l3 l4 l5 : Option PV} {st : List PV} {M : Mem} {Q : Option PV → Mem → Prop} {x y : Int32} : WP d 209 28 [l0, l1, l2, l3, l4, l5] (vi y :: vi x :: st) M Q = WP d 209 29 [l0, l1, l2, l3, l4, l5] (vi (x >>> (y &&& 31)) :: st) M Q := w1 mC_209 d209_28 rfl rfl
theorem d209_29 : decode cX12_areNear 29 = .ok (.iconst 1, 1) := by decide +kernel
theorem k209_29 {d : Nat} {l0 l1 l2 l3 l4 l5 : Option PV} {st : List PV} {M : Mem} {Q : Option PV → Mem → Prop} : WP d 209 29 [l0, l1, l2, l3, l4, l5] (st) M Q = WP d 209 30 [l0, l1, l2, l3, l4, l5] (vi 1 :: st) M Q := w_iconst mC_209 d209_29 (by decide)
theorem d209_30 : decode cX12_areNear 30 = .ok (.iand, 1) := by decide +kernel
theorem k209_30 {d : Nat} {l0 l1 l2 l3 l4 l5 : Option PV} {st : List PV} {M : Mem} {Q : Option PV → Mem → Prop} {x y : Int32} : WP d 209 30 [l0, l1, l2, l3, l4, l5] (vi y :: vi x :: st) M Q = WP d 209 31 [l0, l1, l2, l3, l4, l5] (vi (x &&& y) :: st) M Q := w1 mC_209 d209_30 rfl rfl
theorem d209_31 : decode cX12_areNear 31 = .ok (.iconst 1, 1) := by decide +kernel
theorem k209_31 {d : Nat} {l0 l1 l2 l3 l4 l5 : Option PV} {st : List PV} {M : Mem} {Q : Option PV → Mem → Prop} : WP d 209 31 [l0, l1, l2, l3, l4, l5] (st) M Q = WP d 209 32 [l0, l1, l2, l3, l4, l5] (vi 1 :: st) M Q := w_iconst mC_209 d209_31 (by decide)
theorem d209_32 : decode cX12_areNear 32 = .ok (.if_icmp .ne 32, 3) := by decide +kernel
theorem k209_32 {d : Nat} {l0 l1 l2 l3 l4 l5 : Option PV} {st : List PV} {M : Mem} {Q : Option PV → Mem → Prop} {x y : Int32} : WP d 209 32 [l0, l1, l2, l3, l4, l5] (vi y :: vi x :: st) M Q = (if x = y then WP d 209 35 [l0, l1, l2, l3, l4, l5] (st) M Q else WP d 209 64 [l0, l1, l2, l3, l4, l5] (st) M Q) := w_ic_ne mC_209 d209_32 (by decide)
theorem d209_35 : decode cX12_areNear 35 = .ok (.aload_n 0, 1) := by decide +kernel
theorem k209_35 {d x : Nat} {l1 l2 l3 l4 l5 : Option PV} {st : List PV} {M : Mem} {Q : Option PV → Mem → Prop} : WP d 209 35 [some (vr x), l1, l2, l3, l4, l5] (st) M Q = WP d 209 36 [some (vr x), l1, l2, l3, l4, l5] (vr x :: st) M Q := w1 mC_209 d209_35 rfl rfl
theorem d209_36 : decode cX12_areNear 36 = .ok (.getfield 9, 3) := by decide +kernel
theorem k209_36 {d : Nat} {l0 l1 l2 l3 l4 l5 : Option PV} {st : List PV} {M : Mem} {Q : Option PV → Mem → Prop} {r : Nat} (hk : mK M r = 12) : WP d 209 36 [l0, l1, l2, l3, l4, l5] (vr r :: st) M Q = WP d 209 39 [l0, l1, l2, l3, l4, l5] (vr (mR M r 2) :: st) M Q := w_getr mC_209 d209_36 fE_12_9 rfl (by rw [hk]; rfl)
theorem d209_39 : decode cX12_areNear 39 = .ok (.bipush 16, 2) := by decide +kernel
theorem k209_39 {d : Nat} {l0 l1 l2 l3 l4 l5 : Option PV} {st : List PV} {M : Mem} {Q : Option PV → Mem → Prop} : WP d 209 39 [l0, l1, l2, l3, l4, l5] (st) M Q = WP d 209 41 [l0, l1, l2, l3, l4, l5] (vi 16 :: st) M Q := w_bipush mC_209 d209_39 (by decide)
theorem d209_41 : decode cX12_areNear 41 = .ok (.iload 5, 2) := by decide +kernel
theorem k209_41 {d : Nat} {x : Int32} {l0 l1 l2 l3 l4 : Option PV} {st : List PV} {M : Mem} {Q : Option PV → Mem → Prop} : WP d 209 41 [l0, l1, l2, l3, l4, some (vi x)] (st) M Q = WP d 209 43 [l0, l1, l2, l3, l4, some (vi x)] (vi x :: st) M Q := w1 mC_209 d209_41 rfl rfl
theorem d209_43 : decode cX12_areNear 43 = .ok (.iadd, 1) := by decide +kernel
theorem k209_43 {d : Nat} {l0 l1 l2 l3 l4 l5 : Option PV} {st : List PV} {M : Mem} {Q : Option PV → Mem → Prop} {x y : Int32} : WP d 209 43 [l0, l1, l2, l3, l4, l5] (vi y :: vi x :: st) M Q = WP d 209 44 [l0, l1, l2, l3, l4, l5] (vi (x + y) :: st) M Q := w1 mC_209 d209_43 rfl rfl
theorem d209_44 : decode cX12_areNear 44 = .ok (.iaload, 1) := by decide +kernel
theorem k209_44 {d : Nat} {l0 l1 l2 l3 l4 l5 : Option PV} {st : List PV} {M : Mem} {Q : Option PV → Mem → Prop} {r : Nat} {j : Int32} (hk : mK M r = 13) (hj : inb j (mN M r)) (h1 : r ≠ 1) : WP d 209 44 [l0, l1, l2, l3, l4, l5] (vi j :: vr r :: st) M Q = WP d 209 45 [l0, l1, l2, l3, l4, l5] (vi (mI M r (ix j)) :: st) M Q := w_iald mC_209 d209_44 (by decide) hk hj h1
theorem d209_45 : decode cX12_areNear 45 = .ok (.aload_n 0, 1) := by decide +kernel
theorem k209_45 {d x : Nat} {l1 l2 l3 l4 l5 : Option PV} {st : List PV} {M : Mem} {Q : Option PV → Mem → Prop} : WP d 209 45 [some (vr x), l1, l2, l3, l4, l5] (st) M Q = WP d 209 46 [some (vr x), l1, l2, l3, l4, l5] (vr x :: st) M Q := w1 mC_209 d209_45 rfl rfl
theorem d209_46 : decode cX12_areNear 46 = .ok (.getfield 9, 3) := by decide +kernel
theorem k209_46 {d : Nat} {l0 l1 l2 l3 l4 l5 : Option PV} {st : List PV} {M : Mem} {Q : Option PV → Mem → Prop} {r : Nat} (hk : mK M r = 12) : WP d 209 46 [l0, l1, l2, l3, l4, l5] (vr r :: st) M Q = WP d 209 49 [l0, l1, l2, l3, l4, l5] (vr (mR M r 2) :: st) M Q := w_getr mC_209 d209_46 fE_12_9 rfl (by rw [hk]; rfl)
theorem d209_49 : decode cX12_areNear 49 = .ok (.bipush 16, 2) := by decide +kernel
theorem k209_49 {d : Nat} {l0 l1 l2 l3 l4 l5 : Option PV} {st : List PV} {M : Mem} {Q : Option PV → Mem → Prop} : WP d 209 49 [l0, l1, l2, l3, l4, l5] (st) M Q = WP d 209 51 [l0, l1, l2, l3, l4, l5] (vi 16 :: st) M Q := w_bipush mC_209 d209_49 (by decide)
theorem d209_51 : decode cX12_areNear 51 = .ok (.iload_n 3, 1) := by decide +kernel
theorem k209_51 {d : Nat} {x : Int32} {l0 l1 l2 l4 l5 : Option PV} {st : List PV} {M : Mem} {Q : Option PV → Mem → Prop} : WP d 209 51 [l0, l1, l2, some (vi x), l4, l5] (st) M Q = WP d 209 52 [l0, l1, l2, some (vi x), l4, l5] (vi x :: st) M Q := w1 mC_209 d209_51 rfl rfl
theorem d209_52 : decode cX12_areNear 52 = .ok (.iadd, 1) := by decide +kernel
theorem k209_52 {d : Nat} {l0 l1 l2 l3 l4 l5 : Option PV} {st : List PV} {M : Mem} {Q : Option PV → Mem → Prop} {x y : Int32} : WP d 209 52 [l0, l1, l2, l3, l4, l5] (vi y :: vi x :: st) M Q = WP d 209 53 [l0, l1, l2, l3, l4, l5] (vi (x + y) :: st) M Q := w1 mC_209 d209_52 rfl rfl
theorem d209_53 : decode cX12_areNear 53 = .ok (.iaload, 1) := by decide +kernel
theorem k209_53 {d : Nat} {l0 l1 l2 l3 l4 l5 : Option PV} {st : List PV} {M : Mem} {Q : Option PV → Mem → Prop} {r : Nat} {j : Int32} (hk : mK M r = 13) (hj : inb j (mN M r)) (h1 : r ≠ 1) : WP d 209 53 [l0, l1, l2, l3, l4, l5] (vi j :: vr r :: st) M Q = WP d 209 54 [l0, l1, l2, l3, l4, l5] (vi (mI M r (ix j)) :: st) M Q := w_iald mC_209 d209_53 (by decide) hk hj h1
theorem d209_54 : decode cX12_areNear 54 = .ok (.invokestatic 234, 3) := by decide +kernel
theorem k209_54 {d : Nat} {l0 l1 l2 l3 l4 l5 : Option PV} {st : List PV} {M : Mem} {Q : Option PV → Mem → Prop} {a0 a1 : Int32} (hl : szL st ≤ 8) : WP (d + 1) 209 54 [l0, l1, l2, l3, l4, l5] (vi a1 :: vi a0 :: st) M Q = WP d 180 0 [some (vi a0), some (vi a1)] [] M (fun v M' => WP (d + 1) 209 57 [l0, l1, l2, l3, l4, l5] (psh v st) M' Q) := w_callS mC_209 d209_54 rfl rfl (Nat.le_of_ble_eq_true rfl) (by decide) rfl hl
theorem d209_57 : decode cX12_areNear 57 = .ok (.iload_n 2, 1) := by decide +kernel
theorem k209_57 {d : Nat} {x : Int32} {l0 l1 l3 l4 l5 : Option PV} {st : List PV} {M : Mem} {Q : Option PV → Mem → Prop} : WP d 209 57 [l0, l1, some (vi x), l3, l4, l5] (st) M Q = WP d 209 58 [l0, l1, some (vi x), l3, l4, l5] (vi x :: st) M Q := w1 mC_209 d209_57 rfl rfl
theorem d209_58 : decode cX12_areNear 58 = .ok (.if_icmp .gt 6, 3) := by decide +kernel
theorem k209_58 {d : Nat} {l0 l1 l2 l3 l4 l5 : Option PV} {st : List PV} {M : Mem} {Q : Option PV → Mem → Prop} {x y : Int32} : WP d 209 58 [l0, l1, l2, l3, l4, l5] (vi y :: vi x :: st) M Q = (if y < x then WP d 209 64 [l0, l1, l2, l3, l4, l5] (st) M Q else WP d 209 61 [l0, l1, l2, l3, l4, l5] (st) M Q) := w_ic_gt mC_209 d209_58 (by decide)
theorem d209_61 : decode cX12_areNear 61 = .ok (.iconst 1, 1) := by decide +kernel
theorem k209_61 {d : Nat} {l0 l1 l2 l3 l4 l5 : Option PV} {st : List PV} {M : Mem} {Q : Option PV → Mem → Prop} : WP d 209 61 [l0, l1, l2, l3, l4, l5] (st) M Q = WP d 209 62 [l0, l1, l2, l3, l4, l5] (vi 1 :: st) M Q := w_iconst mC_209 d209_61 (by decide)
theorem d209_62 : decode cX12_areNear 62 = .ok (.istore 4, 2) := by decide +kernel
theorem k209_62 {d : Nat} {l0 l1 l2 l3 l4 l5 : Option PV} {st : List PV} {M : Mem} {Q : Option PV → Mem → Prop} {x : Int32} : WP d 209 62 [l0, l1, l2, l3, l4, l5] (vi x :: st) M Q = WP d 209 64 [l0, l1, l2, l3, some (vi x), l5] (st) M Q := w1 mC_209 d209_62 rfl rfl
theorem d209_64 : decode cX12_areNear 64 = .ok (.iinc 5 1, 3) := by decide +kernel
theorem k209_64 {d : Nat} {x : Int32} {l0 l1 l2 l3 l4 : Option PV} {st : List PV} {M : Mem} {Q : Option PV → Mem → Prop} : WP d 209 64 [l0, l1, l2, l3, l4, some (vi x)] (st) M Q = WP d 209 67 [l0, l1, l2, l3, l4, some (vi (x + 1))] (st) M Q := w_iinc mC_209 d209_64 rfl (by decide) rfl
theorem d209_67 : decode cX12_areNear 67 = .ok (.goto (-51), 3) := by decide +kernel
theorem k209_67 {d : Nat} {l0 l1 l2 l3 l4 l5 : Option PV} {st : List PV} {M : Mem} {Q : Option PV → Mem → Prop} : WP d 209 67 [l0, l1, l2, l3, l4, l5] (st) M Q = WP d 209 16 [l0, l1, l2, l3, l4, l5] (st) M Q := w_goto mC_209 d209_67 (by decide)
theorem d209_70 : decode cX12_areNear 70 = .ok (.iload 4, 2) := by decide +kernel
theorem k209_70 {d : Nat} {x : Int32} {l0 l1 l2 l3 l5 : Option PV} {st : List PV} {M : Mem} {Q : Option PV → Mem → Prop} : WP d 209 70 [l0, l1, l2, l3, some (vi x), l5] (st) M Q = WP d 209 72 [l0, l1, l2, l3, some (vi x), l5] (vi x :: st) M Q := w1 mC_209 d209_70 rfl rfl
theorem d209_72 : decode cX12_areNear 72 = .ok (.ifCond .ne 5, 3) := by decide +kernel
theorem k209_72 {d : Nat} {l0 l1 l2 l3 l4 l5 : Option PV} {st : List PV} {M : Mem} {Q : Option PV → Mem → Prop} {x : Int32} : WP d 209 72 [l0, l1, l2, l3, l4, l5] (vi x :: st) M Q = (if x = 0 then WP d 209 75 [l0, l1, l2, l3, l4, l5] (st) M Q else WP d 209 77 [l0, l1, l2, l3, l4, l5] (st) M Q) := w_if_ne mC_209 d209_72 (by decide)
theorem d209_75 : decode cX12_areNear 75 = .ok (.iconst 0, 1) := by decide +kernel
theorem k209_75 {d : Nat} {l0 l1 l2 l3 l4 l5 : Option PV} {st : List PV} {M : Mem} {Q : Option PV → Mem → Prop} : WP d 209 75 [l0, l1, l2, l3, l4, l5] (st) M Q = WP d 209 76 [l0, l1, l2, l3, l4, l5] (vi 0 :: st) M Q := w_iconst mC_209 d209_75 (by decide)
theorem d209_76 : decode cX12_areNear 76 = .ok (.ireturn, 1) := by decide +kernel
theorem k209_76 {d : Nat} {l0 l1 l2 l3 l4 l5 : Option PV} {M : Mem} {Q : Option PV → Mem → Prop} {x : Int32} (hx : x = 0 ∨ x = 1) : WP d 209 76 [l0, l1, l2, l3, l4, l5] ([vi x]) M Q = Q (some (vi x)) M := w_zret mC_209 d209_76 rfl hx
theorem d209_77 : decode cX12_areNear 77 = .ok (.iinc 3 1, 3) := by decide +kernel
theorem k209_77 {d : Nat} {x : Int32} {l0 l1 l2 l4 l5 : Option PV} {st : List PV} {M : Mem} {Q : Option PV → Mem → Prop} : WP d 209 77 [l0, l1, l2, some (vi x), l4, l5] (st) M Q = WP d 209 80 [l0, l1, l2, some (vi (x + 1)), l4, l5] (st) M Q := w_iinc mC_209 d209_77 rfl (by decide) rfl
theorem d209_80 : decode cX12_areNear 80 = .ok (.goto (-78), 3) := by decide +kernel
theorem k209_80 {d : Nat} {l0 l1 l2 l3 l4 l5 : Option PV} {st : List PV} {M : Mem} {Q : Option PV → Mem → Prop} : WP d 209 80 [l0, l1, l2, l3, l4, l5] (st) M Q = WP d 209 2 [l0, l1, l2, l3, l4, l5] (st) M Q := w_goto mC_209 d209_80 (by decide)
theorem d209_83 : decode cX12_areNear 83 = .ok (.iconst 1, 1) := by decide +kernel
theorem k209_83 {d : Nat} {l0 l1 l2 l3 l4 l5 : Option PV} {st : List PV} {M : Mem} {Q : Option PV → Mem → Prop} : WP d 209 83 [l0, l1, l2, l3, l4, l5] (st) M Q = WP d 209 84 [l0, l1, l2, l3, l4, l5] (vi 1 :: st) M Q := w_iconst mC_209 d209_83 (by decide)
theorem d209_84 : decode cX12_areNear 84 = .ok (.ireturn, 1) := by decide +kernel
theorem k209_84 {d : Nat} {l0 l1 l2 l3 l4 l5 : Option PV} {M : Mem} {Q : Option PV → Mem → Prop} {x : Int32} (hx : x = 0 ∨ x = 1) : WP d 209 84 [l0, l1, l2, l3, l4, l5] ([vi x]) M Q = Q (some (vi x)) M := w_zret mC_209 d209_84 rfl hx
theorem d210_0 : decode cX12_stops 0 = .ok (.iload_n 1, 1) := by decide +kernel
theorem k210_0 {d : Nat} {x : Int32} {l0 l2 l3 l4 : Option PV} {st : List PV} {M : Mem} {Q : Option PV → Mem → Prop} : WP d 210 0 [l0, some (vi x), l2, l3, l4] (st) M Q = WP d 210 1 [l0, some (vi x), l2, l3, l4] (vi x :: st) M Q := w1 mC_210 d210_0 rfl rfl
theorem d210_1 : decode cX12_stops 1 = .ok (.iconst 0, 1) := by decide +kernel
theorem k210_1 {d : Nat} {l0 l1 l2 l3 l4 : Option PV} {st : List PV} {M : Mem} {Q : Option PV → Mem → Prop} : WP d 210 1 [l0, l1, l2, l3, l4] (st) M Q = WP d 210 2 [l0, l1, l2, l3, l4] (vi 0 :: st) M Q := w_iconst mC_210 d210_1 (by decide)
theorem d210_2 : decode cX12_stops 2 = .ok (.bipush 10, 2) := by decide +kernel
theorem k210_2 {d : Nat} {l0 l1 l2 l3 l4 : Option PV} {st : List PV} {M : Mem} {Q : Option PV → Mem → Prop} : WP d 210 2 [l0, l1, l2, l3, l4] (st) M Q = WP d 210 4 [l0, l1, l2, l3, l4] (vi 10 :: st) M Q := w_bipush mC_210 d210_2 (by decide)
theorem d210_4 : decode cX12_stops 4 = .ok (.invokestatic 104, 3) := by decide +kernel
theorem k210_4 {d : Nat} {l0 l1 l2 l3 l4 : Option PV} {st : List PV} {M : Mem} {Q : Option PV → Mem → Prop} {a0 a1 a2 : Int32} (hl : szL st ≤ 8) : WP (d + 1) 210 4 [l0, l1, l2, l3, l4] (vi a2 :: vi a1 :: vi a0 :: st) M Q = WP d 145 0 [some (vi a0), some (vi a1), some (vi a2)] [] M (fun v M' => WP (d + 1) 210 7 [l0, l1, l2, l3, l4] (psh v st) M' Q) := w_callS mC_210 d210_4 rfl rfl (Nat.le_of_ble_eq_true rfl) (by decide) rfl hl
theorem d210_7 : decode cX12_stops 7 = .ok (.ifCond .eq 12, 3) := by decide +kernel
theorem k210_7 {d : Nat} {l0 l1 l2 l3 l4 : Option PV} {st : List PV} {M : Mem} {Q : Option PV → Mem → Prop} {x : Int32} : WP d 210 7 [l0, l1, l2, l3, l4] (vi x :: st) M Q = (if x = 0 then WP d 210 19 [l0, l1, l2, l3, l4] (st) M Q else WP d 210 10 [l0, l1, l2, l3, l4] (st) M Q) := w_if_eq mC_210 d210_7 (by decide)
theorem d210_10 : decode cX12_stops 10 = .ok (.iload_n 2, 1) := by decide +kernel
theorem k210_10 {d : Nat} {x : Int32} {l0 l1 l3 l4 : Option PV} {st : List PV} {M : Mem} {Q : Option PV → Mem → Prop} : WP d 210 10 [l0, l1, some (vi x), l3, l4] (st) M Q = WP d 210 11 [l0, l1, some (vi x), l3, l4] (vi x :: st) M Q := w1 mC_210 d210_10 rfl rfl
theorem d210_11 : decode cX12_stops 11 = .ok (.iconst 0, 1) := by decide +kernel
theorem k210_11 {d : Nat} {l0 l1 l2 l3 l4 : Option PV} {st : List PV} {M : Mem} {Q : Option PV → Mem → Prop} : WP d 210 11 [l0, l1, l2, l3, l4] (st) M Q = WP d 210 12 [l0, l1, l2, l3, l4] (vi 0 :: st) M Q := w_iconst mC_210 d210_11 (by decide)
theorem d210_12 : decode cX12_stops 12 = .ok (.iconst 1, 1) := by decide +kernel
theorem k210_12 {d : Nat} {l0 l1 l2 l3 l4 : Option PV} {st : List PV} {M : Mem} {Q : Option PV → Mem → Prop} : WP d 210 12 [l0, l1, l2, l3, l4] (st) M Q = WP d 210 13 [l0, l1, l2, l3, l4] (vi 1 :: st) M Q := w_iconst mC_210 d210_12 (by decide)
theorem d210_13 : decode cX12_stops 13 = .ok (.invokestatic 104, 3) := by decide +kernel
theorem k210_13 {d : Nat} {l0 l1 l2 l3 l4 : Option PV} {st : List PV} {M : Mem} {Q : Option PV → Mem → Prop} {a0 a1 a2 : Int32} (hl : szL st ≤ 8) : WP (d + 1) 210 13 [l0, l1, l2, l3, l4] (vi a2 :: vi a1 :: vi a0 :: st) M Q = WP d 145 0 [some (vi a0), some (vi a1), some (vi a2)] [] M (fun v M' => WP (d + 1) 210 16 [l0, l1, l2, l3, l4] (psh v st) M' Q) := w_callS mC_210 d210_13 rfl rfl (Nat.le_of_ble_eq_true rfl) (by decide) rfl hl
theorem d210_16 : decode cX12_stops 16 = .ok (.ifCond .ne 5, 3) := by decide +kernel
theorem k210_16 {d : Nat} {l0 l1 l2 l3 l4 : Option PV} {st : List PV} {M : Mem} {Q : Option PV → Mem → Prop} {x : Int32} : WP d 210 16 [l0, l1, l2, l3, l4] (vi x :: st) M Q = (if x = 0 then WP d 210 19 [l0, l1, l2, l3, l4] (st) M Q else WP d 210 21 [l0, l1, l2, l3, l4] (st) M Q) := w_if_ne mC_210 d210_16 (by decide)
theorem d210_19 : decode cX12_stops 19 = .ok (.iconst (-1), 1) := by decide +kernel
theorem k210_19 {d : Nat} {l0 l1 l2 l3 l4 : Option PV} {st : List PV} {M : Mem} {Q : Option PV → Mem → Prop} : WP d 210 19 [l0, l1, l2, l3, l4] (st) M Q = WP d 210 20 [l0, l1, l2, l3, l4] (vi (-1) :: st) M Q := w_iconst mC_210 d210_19 (by decide)
theorem d210_20 : decode cX12_stops 20 = .ok (.ireturn, 1) := by decide +kernel
theorem k210_20 {d : Nat} {l0 l1 l2 l3 l4 : Option PV} {M : Mem} {Q : Option PV → Mem → Prop} {x : Int32} : WP d 210 20 [l0, l1, l2, l3, l4] ([vi x]) M Q = Q (some (vi x)) M := w_iret mC_210 d210_20 rfl
theorem d210_21 : decode cX12_stops 21 = .ok (.iconst 1, 1) := by decide +kernel
theorem k210_21 {d : Nat} {l0 l1 l2 l3 l4 : Option PV} {st : List PV} {M : Mem} {Q : Option PV → Mem → Prop} : WP d 210 21 [l0, l1, l2, l3, l4] (st) M Q = WP d 210 22 [l0, l1, l2, l3, l4] (vi 1 :: st) M Q := w_iconst mC_210 d210_21 (by decide)
theorem d210_22 : decode cX12_stops 22 = .ok (.aload_n 0, 1) := by decide +kernel
theorem k210_22 {d x : Nat} {l1 l2 l3 l4 : Option PV} {st : List PV} {M : Mem} {Q : Option PV → Mem → Prop} : WP d 210 22 [some (vr x), l1, l2, l3, l4] (st) M Q = WP d 210 23 [some (vr x), l1, l2, l3, l4] (vr x :: st) M Q := w1 mC_210 d210_22 rfl rfl
theorem d210_23 : decode cX12_stops 23 = .ok (.getfield 108, 3) := by decide +kernel
theorem k210_23 {d : Nat} {l0 l1 l2 l3 l4 : Option PV} {st : List PV} {M : Mem} {Q : Option PV → Mem → Prop} {r : Nat} (hk : mK M r = 12) : WP d 210 23 [l0, l1, l2, l3, l4] (vr r :: st) M Q = WP d 210 26 [l0, l1, l2, l3, l4] (vi (mI M r 1) :: st) M Q := w_get mC_210 d210_23 fE_12_108 rfl (by rw [hk]; rfl)
theorem d210_26 : decode cX12_stops 26 = .ok (.ishl, 1) := by decide +kernel
theorem k210_26 {d : Nat} {l0 l1 l2 l3 l4 : Option PV} {st : List PV} {M : Mem} {Q : Option PV → Mem → Prop} {x y : Int32} : WP d 210 26 [l0, l1, l2, l3, l4] (vi y :: vi x :: st) M Q = WP d 210 27 [l0, l1, l2, l3, l4] (vi (x <<< (y &&& 31)) :: st) M Q := w1 mC_210 d210_26 rfl rfl
theorem d210_27 : decode cX12_stops 27 = .ok (.iconst 1, 1) := by decide +kernel
theorem k210_27 {d : Nat} {l0 l1 l2 l3 l4 : Option PV} {st : List PV} {M : Mem} {Q : Option PV → Mem → Prop} : WP d 210 27 [l0, l1, l2, l3, l4] (st) M Q = WP d 210 28 [l0, l1, l2, l3, l4] (vi 1 :: st) M Q := w_iconst mC_210 d210_27 (by decide)
theorem d210_28 : decode cX12_stops 28 = .ok (.isub, 1) := by decide +kernel
theorem k210_28 {d : Nat} {l0 l1 l2 l3 l4 : Option PV} {st : List PV} {M : Mem} {Q : Option PV → Mem → Prop} {x y : Int32} : WP d 210 28 [l0, l1, l2, l3, l4] (vi y :: vi x :: st) M Q = WP d 210 29 [l0, l1, l2, l3, l4] (vi (x - y) :: st) M Q := w1 mC_210 d210_28 rfl rfl
theorem d210_29 : decode cX12_stops 29 = .ok (.istore_n 3, 1) := by decide +kernel
theorem k210_29 {d : Nat} {l0 l1 l2 l3 l4 : Option PV} {st : List PV} {M : Mem} {Q : Option PV → Mem → Prop} {x : Int32} : WP d 210 29 [l0, l1, l2, l3, l4] (vi x :: st) M Q = WP d 210 30 [l0, l1, l2, some (vi x), l4] (st) M Q := w1 mC_210 d210_29 rfl rfl
theorem d210_30 : decode cX12_stops 30 = .ok (.iload_n 3, 1) := by decide +kernel
theorem k210_30 {d : Nat} {x : Int32} {l0 l1 l2 l4 : Option PV} {st : List PV} {M : Mem} {Q : Option PV → Mem → Prop} : WP d 210 30 [l0, l1, l2, some (vi x), l4] (st) M Q = WP d 210 31 [l0, l1, l2, some (vi x), l4] (vi x :: st) M Q := w1 mC_210 d210_30 rfl rfl
theorem d210_31 : decode cX12_stops 31 = .ok (.istore 4, 2) := by decide +kernel
theorem k210_31 {d : Nat} {l0 l1 l2 l3 l4 : Option PV} {st : List PV} {M : Mem} {Q : Option PV → Mem → Prop} {x : Int32} : WP d 210 31 [l0, l1, l2, l3, l4] (vi x :: st) M Q = WP d 210 33 [l0, l1, l2, l3, some (vi x)] (st) M Q := w1 mC_210 d210_31 rfl rfl
theorem d210_33 : decode cX12_stops 33 = .ok (.iload 4, 2) := by decide +kernel
theorem k210_33 {d : Nat} {x : Int32} {l0 l1 l2 l3 : Option PV} {st : List PV} {M : Mem} {Q : Option PV → Mem → Prop} : WP d 210 33 [l0, l1, l2, l3, some (vi x)] (st) M Q = WP d 210 35 [l0, l1, l2, l3, some (vi x)] (vi x :: st) M Q := w1 mC_210 d210_33 rfl rfl
theorem d210_35 : decode cX12_stops 35 = .ok (.ifCond .lt 34, 3) := by decide +kernel
theorem k210_35 {d : Nat} {l0 l1 l2 l3 l4 : Option PV} {st : List PV} {M : Mem} {Q : Option PV → Mem → Prop} {x : Int32} : WP d 210 35 [l0, l1, l2, l3, l4] (vi x :: st) M Q = (if x < 0 then WP d 210 69 [l0, l1, l2, l3, l4] (st) M Q else WP d 210 38 [l0, l1, l2, l3, l4] (st) M Q) := w_if_lt mC_210 d210_35 (by decide)
theorem d210_38 : decode cX12_stops 38 = .ok (.iload 4, 2) := by decide +kernel
theorem k210_38 {d : Nat} {x : Int32} {l0 l1 l2 l3 : Option PV} {st : List PV} {M : Mem} {Q : Option PV → Mem → Prop} : WP d 210 38 [l0, l1, l2, l3, some (vi x)] (st) M Q = WP d 210 40 [l0, l1, l2, l3, some (vi x)] (vi x :: st) M Q := w1 mC_210 d210_38 rfl rfl
theorem d210_40 : decode cX12_stops 40 = .ok (.invokestatic 308, 3) := by decide +kernel
theorem k210_40 {d : Nat} {l0 l1 l2 l3 l4 : Option PV} {st : List PV} {M : Mem} {Q : Option PV → Mem → Prop} {a0 : Int32} (hl : szL st ≤ 8) : WP (d + 1) 210 40 [l0, l1, l2, l3, l4] (vi a0 :: st) M Q = WP d 247 0 [some (vi a0)] [] M (fun v M' => WP (d + 1) 210 43 [l0, l1, l2, l3, l4] (psh v st) M' Q) := w_callS mC_210 d210_40 rfl rfl (Nat.le_of_ble_eq_true rfl) (by decide) rfl hl
theorem d210_43 : decode cX12_stops 43 = .ok (.iload_n 3, 1) := by decide +kernel
theorem k210_43 {d : Nat} {x : Int32} {l0 l1 l2 l4 : Option PV} {st : List PV} {M : Mem} {Q : Option PV → Mem → Prop} : WP d 210 43 [l0, l1, l2, some (vi x), l4] (st) M Q = WP d 210 44 [l0, l1, l2, some (vi x), l4] (vi x :: st) M Q := w1 mC_210 d210_43 rfl rfl
theorem d210_44 : decode cX12_stops 44 = .ok (.invokestatic 308, 3) := by decide +kernel
theorem k210_44 {d : Nat} {l0 l1 l2 l3 l4 : Option PV} {st : List PV} {M : Mem} {Q : Option PV → Mem → Prop} {a0 : Int32} (hl : szL st ≤ 8) : WP (d + 1) 210 44 [l0, l1, l2, l3, l4] (vi a0 :: st) M Q = WP d 247 0 [some (vi a0)] [] M (fun v M' => WP (d + 1) 210 47 [l0, l1, l2, l3, l4] (psh v st) M' Q) := w_callS mC_210 d210_44 rfl rfl (Nat.le_of_ble_eq_true rfl) (by decide) rfl hl
theorem d210_47 : decode cX12_stops 47 = .ok (.if_icmp .gt 16, 3) := by decide +kernel
theorem k210_47 {d : Nat} {l0 l1 l2 l3 l4 : Option PV} {st : List PV} {M : Mem} {Q : Option PV → Mem → Prop} {x y : Int32} : WP d 210 47 [l0, l1, l2, l3, l4] (vi y :: vi x :: st) M Q = (if y < x then WP d 210 63 [l0, l1, l2, l3, l4] (st) M Q else WP d 210 50 [l0, l1, l2, l3, l4] (st) M Q) := w_ic_gt mC_210 d210_47 (by decide)
theorem d210_50 : decode cX12_stops 50 = .ok (.aload_n 0, 1) := by decide +kernel
theorem k210_50 {d x : Nat} {l1 l2 l3 l4 : Option PV} {st : List PV} {M : Mem} {Q : Option PV → Mem → Prop} : WP d 210 50 [some (vr x), l1, l2, l3, l4] (st) M Q = WP d 210 51 [some (vr x), l1, l2, l3, l4] (vr x :: st) M Q := w1 mC_210 d210_50 rfl rfl
theorem d210_51 : decode cX12_stops 51 = .ok (.iload 4, 2) := by decide +kernel
theorem k210_51 {d : Nat} {x : Int32} {l0 l1 l2 l3 : Option PV} {st : List PV} {M : Mem} {Q : Option PV → Mem → Prop} : WP d 210 51 [l0, l1, l2, l3, some (vi x)] (st) M Q = WP d 210 53 [l0, l1, l2, l3, some (vi x)] (vi x :: st) M Q := w1 mC_210 d210_51 rfl rfl
theorem d210_53 : decode cX12_stops 53 = .ok (.iload_n 1, 1) := by decide +kernel
theorem k210_53 {d : Nat} {x : Int32} {l0 l2 l3 l4 : Option PV} {st : List PV} {M : Mem} {Q : Option PV → Mem → Prop} : WP d 210 53 [l0, some (vi x), l2, l3, l4] (st) M Q = WP d 210 54 [l0, some (vi x), l2, l3, l4] (vi x :: st) M Q := w1 mC_210 d210_53 rfl rfl
theorem d210_54 : decode cX12_stops 54 = .ok (.invokevirtual 313, 3) := by decide +kernel
theorem k210_54 {d : Nat} {l0 l1 l2 l3 l4 : Option PV} {st : List PV} {M : Mem} {Q : Option PV → Mem → Prop} {a0 a1 : Int32} {r : Nat} (hl : szL st ≤ 8) (hk : mK M r = 12) : WP (d + 1) 210 54 [l0, l1, l2, l3, l4] (vi a1 :: vi a0 :: vr r :: st) M Q = WP d 209 0 [some (vr r), some (vi a0), some (vi a1), none, none, none] [] M (fun v M' => WP (d + 1) 210 57 [l0, l1, l2, l3, l4] (psh v st) M' Q) := w_callV mC_210 d210_54 (ci := 12) rfl rfl rfl (Nat.le_of_ble_eq_true rfl) (by decide) rfl hl hk
theorem d210_57 : decode cX12_stops 57 = .ok (.ifCond .eq 6, 3) := by decide +kernel
theorem k210_57 {d : Nat} {l0 l1 l2 l3 l4 : Option PV} {st : List PV} {M : Mem} {Q : Option PV → Mem → Prop} {x : Int32} : WP d 210 57 [l0, l1, l2, l3, l4] (vi x :: st) M Q = (if x = 0 then WP d 210 63 [l0, l1, l2, l3, l4] (st) M Q else WP d 210 60 [l0, l1, l2, l3, l4] (st) M Q) := w_if_eq mC_210 d210_57 (by decide)
theorem d210_60 : decode cX12_stops 60 = .ok (.iload 4, 2) := by decide +kernel
theorem k210_60 {d : Nat} {x : Int32} {l0 l1 l2 l3 : Option PV} {st : List PV} {M : Mem} {Q : Option PV → Mem → Prop} : WP d 210 60 [l0, l1, l2, l3, some (vi x)] (st) M Q = WP d 210 62 [l0, l1, l2, l3, some (vi x)] (vi x :: st) M Q := w1 mC_210 d210_60 rfl rfl
theorem d210_62 : decode cX12_stops 62 = .ok (.istore_n 3, 1) := by decide +kernel
theorem k210_62 {d : Nat} {l0 l1 l2 l3 l4 : Option PV} {st : List PV} {M : Mem} {Q : Option PV → Mem → Prop} {x : Int32} : WP d 210 62 [l0, l1, l2, l3, l4] (vi x :: st) M Q = WP d 210 63 [l0, l1, l2, some (vi x), l4] (st) M Q := w1 mC_210 d210_62 rfl rfl
theorem d210_63 : decode cX12_stops 63 = .ok (.iinc 4 (-1), 3) := by decide +kernel
theorem k210_63 {d : Nat} {x : Int32} {l0 l1 l2 l3 : Option PV} {st : List PV} {M : Mem} {Q : Option PV → Mem → Prop} : WP d 210 63 [l0, l1, l2, l3, some (vi x)] (st) M Q = WP d 210 66 [l0, l1, l2, l3, some (vi (x + (-1)))] (st) M Q := w_iinc mC_210 d210_63 rfl (by decide) rfl
theorem d210_66 : decode cX12_stops 66 = .ok (.goto (-33), 3) := by decide +kernel
theorem k210_66 {d : Nat} {l0 l1 l2 l3 l4 : Option PV} {st : List PV} {M : Mem} {Q : Option PV → Mem → Prop} : WP d 210 66 [l0, l1, l2, l3, l4] (st) M Q = WP d 210 33 [l0, l1, l2, l3, l4] (st) M Q := w_goto mC_210 d210_66 (by decide)
theorem d210_69 : decode cX12_stops 69 = .ok (.iload_n 2, 1) := by decide +kernel
theorem k210_69 {d : Nat} {x : Int32} {l0 l1 l3 l4 : Option PV} {st : List PV} {M : Mem} {Q : Option PV → Mem → Prop} : WP d 210 69 [l0, l1, some (vi x), l3, l4] (st) M Q = WP d 210 70 [l0, l1, some (vi x), l3, l4] (vi x :: st) M Q := w1 mC_210 d210_69 rfl rfl
theorem d210_70 : decode cX12_stops 70 = .ok (.ifCond .ne 10, 3) := by decide +kernel
theorem k210_70 {d : Nat} {l0 l1 l2 l3 l4 : Option PV} {st : List PV} {M : Mem} {Q : Option PV → Mem → Prop} {x : Int32} : WP d 210 70 [l0, l1, l2, l3, l4] (vi x :: st) M Q = (if x = 0 then WP d 210 73 [l0, l1, l2, l3, l4] (st) M Q else WP d 210 80 [l0, l1, l2, l3, l4] (st) M Q) := w_if_ne mC_210 d210_70 (by decide)
theorem d210_73 : decode cX12_stops 73 = .ok (.iload_n 3, 1) := by decide +kernel
theorem k210_73 {d : Nat} {x : Int32} {l0 l1 l2 l4 : Option PV} {st : List PV} {M : Mem} {Q : Option PV → Mem → Prop} : WP d 210 73 [l0, l1, l2, some (vi x), l4] (st) M Q = WP d 210 74 [l0, l1, l2, some (vi x), l4] (vi x :: st) M Q := w1 mC_210 d210_73 rfl rfl
theorem d210_74 : decode cX12_stops 74 = .ok (.invokestatic 308, 3) := by decide +kernel
theorem k210_74 {d : Nat} {l0 l1 l2 l3 l4 : Option PV} {st : List PV} {M : Mem} {Q : Option PV → Mem → Prop} {a0 : Int32} (hl : szL st ≤ 8) : WP (d + 1) 210 74 [l0, l1, l2, l3, l4] (vi a0 :: st) M Q = WP d 247 0 [some (vi a0)] [] M (fun v M' => WP (d + 1) 210 77 [l0, l1, l2, l3, l4] (psh v st) M' Q) := w_callS mC_210 d210_74 rfl rfl (Nat.le_of_ble_eq_true rfl) (by decide) rfl hl
theorem d210_77 : decode cX12_stops 77 = .ok (.goto 4, 3) := by decide +kernel
theorem k210_77 {d : Nat} {l0 l1 l2 l3 l4 : Option PV} {st : List PV} {M : Mem} {Q : Option PV → Mem → Prop} : WP d 210 77 [l0, l1, l2, l3, l4] (st) M Q = WP d 210 81 [l0, l1, l2, l3, l4] (st) M Q := w_goto mC_210 d210_77 (by decide)
theorem d210_80 : decode cX12_stops 80 = .ok (.iload_n 3, 1) := by decide +kernel
theorem k210_80 {d : Nat} {x : Int32} {l0 l1 l2 l4 : Option PV} {st : List PV} {M : Mem} {Q : Option PV → Mem → Prop} : WP d 210 80 [l0, l1, l2, some (vi x), l4] (st) M Q = WP d 210 81 [l0, l1, l2, some (vi x), l4] (vi x :: st) M Q := w1 mC_210 d210_80 rfl rfl
theorem d210_81 : decode cX12_stops 81 = .ok (.ireturn, 1) := by decide +kernel
theorem k210_81 {d : Nat} {l0 l1 l2 l3 l4 : Option PV} {M : Mem} {Q : Option PV → Mem → Prop} {x : Int32} : WP d 210 81 [l0, l1, l2, l3, l4] ([vi x]) M Q = Q (some (vi x)) M := w_iret mC_210 d210_81 rfl
theorem d211_0 : decode cX12_noBytes 0 = .ok (.aload_n 0, 1) := by decide +kernel
theorem k211_0 {d x : Nat} {l1 : Option PV} {st : List PV} {M : Mem} {Q : Option PV → Mem → Prop} : WP d 211 0 [some (vr x), l1] (st) M Q = WP d 211 1 [some (vr x), l1] (vr x :: st) M Q := w1 mC_211 d211_0 rfl rfl
theorem d211_1 : decode cX12_noBytes 1 = .ok (.getfield 69, 3) := by decide +kernel
theorem k211_1 {d : Nat} {l0 l1 : Option PV} {st : List PV} {M : Mem} {Q : Option PV → Mem → Prop} {r : Nat} (hk : mK M r = 12) : WP d 211 1 [l0, l1] (vr r :: st) M Q = WP d 211 4 [l0, l1] (vr (mR M r 35) :: st) M Q := w_getr mC_211 d211_1 fE_12_69 rfl (by rw [hk]; rfl)
theorem d211_4 : decode cX12_noBytes 4 = .ok (.iload_n 1, 1) := by decide +kernel
theorem k211_4 {d : Nat} {x : Int32} {l0 : Option PV} {st : List PV} {M : Mem} {Q : Option PV → Mem → Prop} : WP d 211 4 [l0, some (vi x)] (st) M Q = WP d 211 5 [l0, some (vi x)] (vi x :: st) M Q := w1 mC_211 d211_4 rfl rfl
theorem d211_5 : decode cX12_noBytes 5 = .ok (.iaload, 1) := by decide +kernel
theorem k211_5 {d : Nat} {l0 l1 : Option PV} {st : List PV} {M : Mem} {Q : Option PV → Mem → Prop} {r : Nat} {j : Int32} (hk : mK M r = 13) (hj : inb j (mN M r)) (h1 : r ≠ 1) : WP d 211 5 [l0, l1] (vi j :: vr r :: st) M Q = WP d 211 6 [l0, l1] (vi (mI M r (ix j)) :: st) M Q := w_iald mC_211 d211_5 (by decide) hk hj h1
theorem d211_6 : decode cX12_noBytes 6 = .ok (.iconst (-1), 1) := by decide +kernel
theorem k211_6 {d : Nat} {l0 l1 : Option PV} {st : List PV} {M : Mem} {Q : Option PV → Mem → Prop} : WP d 211 6 [l0, l1] (st) M Q = WP d 211 7 [l0, l1] (vi (-1) :: st) M Q := w_iconst mC_211 d211_6 (by decide)
theorem d211_7 : decode cX12_noBytes 7 = .ok (.if_icmp .ne 8, 3) := by decide +kernel
theorem k211_7 {d : Nat} {l0 l1 : Option PV} {st : List PV} {M : Mem} {Q : Option PV → Mem → Prop} {x y : Int32} : WP d 211 7 [l0, l1] (vi y :: vi x :: st) M Q = (if x = y then WP d 211 10 [l0, l1] (st) M Q else WP d 211 15 [l0, l1] (st) M Q) := w_ic_ne mC_211 d211_7 (by decide)
theorem d211_10 : decode cX12_noBytes 10 = .ok (.bipush (-11), 2) := by decide +kernel
theorem k211_10 {d : Nat} {l0 l1 : Option PV} {st : List PV} {M : Mem} {Q : Option PV → Mem → Prop} : WP d 211 10 [l0, l1] (st) M Q = WP d 211 12 [l0, l1] (vi (-11) :: st) M Q := w_bipush mC_211 d211_10 (by decide)
theorem d211_12 : decode cX12_noBytes 12 = .ok (.goto 18, 3) := by decide +kernel
theorem k211_12 {d : Nat} {l0 l1 : Option PV} {st : List PV} {M : Mem} {Q : Option PV → Mem → Prop} : WP d 211 12 [l0, l1] (st) M Q = WP d 211 30 [l0, l1] (st) M Q := w_goto mC_211 d211_12 (by decide)
theorem d211_15 : decode cX12_noBytes 15 = .ok (.aload_n 0, 1) := by decide +kernel
theorem k211_15 {d x : Nat} {l1 : Option PV} {st : List PV} {M : Mem} {Q : Option PV → Mem → Prop} : WP d 211 15 [some (vr x), l1] (st) M Q = WP d 211 16 [some (vr x), l1] (vr x :: st) M Q := w1 mC_211 d211_15 rfl rfl
theorem d211_16 : decode cX12_noBytes 16 = .ok (.getfield 69, 3) := by decide +kernel
theorem k211_16 {d : Nat} {l0 l1 : Option PV} {st : List PV} {M : Mem} {Q : Option PV → Mem → Prop} {r : Nat} (hk : mK M r = 12) : WP d 211 16 [l0, l1] (vr r :: st) M Q = WP d 211 19 [l0, l1] (vr (mR M r 35) :: st) M Q := w_getr mC_211 d211_16 fE_12_69 rfl (by rw [hk]; rfl)
theorem d211_19 : decode cX12_noBytes 19 = .ok (.iload_n 1, 1) := by decide +kernel
theorem k211_19 {d : Nat} {x : Int32} {l0 : Option PV} {st : List PV} {M : Mem} {Q : Option PV → Mem → Prop} : WP d 211 19 [l0, some (vi x)] (st) M Q = WP d 211 20 [l0, some (vi x)] (vi x :: st) M Q := w1 mC_211 d211_19 rfl rfl
theorem d211_20 : decode cX12_noBytes 20 = .ok (.iaload, 1) := by decide +kernel
theorem k211_20 {d : Nat} {l0 l1 : Option PV} {st : List PV} {M : Mem} {Q : Option PV → Mem → Prop} {r : Nat} {j : Int32} (hk : mK M r = 13) (hj : inb j (mN M r)) (h1 : r ≠ 1) : WP d 211 20 [l0, l1] (vi j :: vr r :: st) M Q = WP d 211 21 [l0, l1] (vi (mI M r (ix j)) :: st) M Q := w_iald mC_211 d211_20 (by decide) hk hj h1
theorem d211_21 : decode cX12_noBytes 21 = .ok (.ifCond .eq 8, 3) := by decide +kernel
theorem k211_21 {d : Nat} {l0 l1 : Option PV} {st : List PV} {M : Mem} {Q : Option PV → Mem → Prop} {x : Int32} : WP d 211 21 [l0, l1] (vi x :: st) M Q = (if x = 0 then WP d 211 29 [l0, l1] (st) M Q else WP d 211 24 [l0, l1] (st) M Q) := w_if_eq mC_211 d211_21 (by decide)
theorem d211_24 : decode cX12_noBytes 24 = .ok (.bipush (-12), 2) := by decide +kernel
theorem k211_24 {d : Nat} {l0 l1 : Option PV} {st : List PV} {M : Mem} {Q : Option PV → Mem → Prop} : WP d 211 24 [l0, l1] (st) M Q = WP d 211 26 [l0, l1] (vi (-12) :: st) M Q := w_bipush mC_211 d211_24 (by decide)
theorem d211_26 : decode cX12_noBytes 26 = .ok (.goto 4, 3) := by decide +kernel
theorem k211_26 {d : Nat} {l0 l1 : Option PV} {st : List PV} {M : Mem} {Q : Option PV → Mem → Prop} : WP d 211 26 [l0, l1] (st) M Q = WP d 211 30 [l0, l1] (st) M Q := w_goto mC_211 d211_26 (by decide)
theorem d211_29 : decode cX12_noBytes 29 = .ok (.iconst 0, 1) := by decide +kernel
theorem k211_29 {d : Nat} {l0 l1 : Option PV} {st : List PV} {M : Mem} {Q : Option PV → Mem → Prop} : WP d 211 29 [l0, l1] (st) M Q = WP d 211 30 [l0, l1] (vi 0 :: st) M Q := w_iconst mC_211 d211_29 (by decide)
theorem d211_30 : decode cX12_noBytes 30 = .ok (.ireturn, 1) := by decide +kernel
theorem k211_30 {d : Nat} {l0 l1 : Option PV} {M : Mem} {Q : Option PV → Mem → Prop} {x : Int32} : WP d 211 30 [l0, l1] ([vi x]) M Q = Q (some (vi x)) M := w_iret mC_211 d211_30 rfl
theorem d212_0 : decode cX12_unlike 0 = .ok (.aload_n 0, 1) := by decide +kernel
theorem k212_0 {d x : Nat} {l1 l2 l3 l4 : Option PV} {st : List PV} {M : Mem} {Q : Option PV → Mem → Prop} : WP d 212 0 [some (vr x), l1, l2, l3, l4] (st) M Q = WP d 212 1 [some (vr x), l1, l2, l3, l4] (vr x :: st) M Q := w1 mC_212 d212_0 rfl rfl
theorem d212_1 : decode cX12_unlike 1 = .ok (.aload_n 0, 1) := by decide +kernel
theorem k212_1 {d x : Nat} {l1 l2 l3 l4 : Option PV} {st : List PV} {M : Mem} {Q : Option PV → Mem → Prop} : WP d 212 1 [some (vr x), l1, l2, l3, l4] (st) M Q = WP d 212 2 [some (vr x), l1, l2, l3, l4] (vr x :: st) M Q := w1 mC_212 d212_1 rfl rfl
theorem d212_2 : decode cX12_unlike 2 = .ok (.getfield 79, 3) := by decide +kernel
theorem k212_2 {d : Nat} {l0 l1 l2 l3 l4 : Option PV} {st : List PV} {M : Mem} {Q : Option PV → Mem → Prop} {r : Nat} (hk : mK M r = 12) : WP d 212 2 [l0, l1, l2, l3, l4] (vr r :: st) M Q = WP d 212 5 [l0, l1, l2, l3, l4] (vr (mR M r 40) :: st) M Q := w_getr mC_212 d212_2 fE_12_79 rfl (by rw [hk]; rfl)
theorem d212_5 : decode cX12_unlike 5 = .ok (.invokevirtual 272, 3) := by decide +kernel
theorem k212_5 {d : Nat} {l0 l1 l2 l3 l4 : Option PV} {st : List PV} {M : Mem} {Q : Option PV → Mem → Prop} {a0 : Nat} {r : Nat} (hl : szL st ≤ 8) (hk : mK M r = 12) : WP (d + 1) 212 5 [l0, l1, l2, l3, l4] (vr a0 :: vr r :: st) M Q = WP d 190 0 [some (vr r), some (vr a0), none] [] M (fun v M' => WP (d + 1) 212 8 [l0, l1, l2, l3, l4] (psh v st) M' Q) := w_callV mC_212 d212_5 (ci := 12) rfl rfl rfl (Nat.le_of_ble_eq_true rfl) (by decide) rfl hl hk
theorem d212_8 : decode cX12_unlike 8 = .ok (.bipush (-2), 2) := by decide +kernel
theorem k212_8 {d : Nat} {l0 l1 l2 l3 l4 : Option PV} {st : List PV} {M : Mem} {Q : Option PV → Mem → Prop} : WP d 212 8 [l0, l1, l2, l3, l4] (st) M Q = WP d 212 10 [l0, l1, l2, l3, l4] (vi (-2) :: st) M Q := w_bipush mC_212 d212_8 (by decide)
theorem d212_10 : decode cX12_unlike 10 = .ok (.istore_n 3, 1) := by decide +kernel
theorem k212_10 {d : Nat} {l0 l1 l2 l3 l4 : Option PV} {st : List PV} {M : Mem} {Q : Option PV → Mem → Prop} {x : Int32} : WP d 212 10 [l0, l1, l2, l3, l4] (vi x :: st) M Q = WP d 212 11 [l0, l1, l2, some (vi x), l4] (st) M Q := w1 mC_212 d212_10 rfl rfl
theorem d212_11 : decode cX12_unlike 11 = .ok (.iconst 0, 1) := by decide +kernel
theorem k212_11 {d : Nat} {l0 l1 l2 l3 l4 : Option PV} {st : List PV} {M : Mem} {Q : Option PV → Mem → Prop} : WP d 212 11 [l0, l1, l2, l3, l4] (st) M Q = WP d 212 12 [l0, l1, l2, l3, l4] (vi 0 :: st) M Q := w_iconst mC_212 d212_11 (by decide)
theorem d212_12 : decode cX12_unlike 12 = .ok (.istore 4, 2) := by decide +kernel
theorem k212_12 {d : Nat} {l0 l1 l2 l3 l4 : Option PV} {st : List PV} {M : Mem} {Q : Option PV → Mem → Prop} {x : Int32} : WP d 212 12 [l0, l1, l2, l3, l4] (vi x :: st) M Q = WP d 212 14 [l0, l1, l2, l3, some (vi x)] (st) M Q := w1 mC_212 d212_12 rfl rfl
theorem d212_14 : decode cX12_unlike 14 = .ok (.iload 4, 2) := by decide +kernel
theorem k212_14 {d : Nat} {x : Int32} {l0 l1 l2 l3 : Option PV} {st : List PV} {M : Mem} {Q : Option PV → Mem → Prop} : WP d 212 14 [l0, l1, l2, l3, some (vi x)] (st) M Q = WP d 212 16 [l0, l1, l2, l3, some (vi x)] (vi x :: st) M Q := w1 mC_212 d212_14 rfl rfl
theorem d212_16 : decode cX12_unlike 16 = .ok (.aload_n 0, 1) := by decide +kernel
theorem k212_16 {d x : Nat} {l1 l2 l3 l4 : Option PV} {st : List PV} {M : Mem} {Q : Option PV → Mem → Prop} : WP d 212 16 [some (vr x), l1, l2, l3, l4] (st) M Q = WP d 212 17 [some (vr x), l1, l2, l3, l4] (vr x :: st) M Q := w1 mC_212 d212_16 rfl rfl
theorem d212_17 : decode cX12_unlike 17 = .ok (.getfield 72, 3) := by decide +kernel
theorem k212_17 {d : Nat} {l0 l1 l2 l3 l4 : Option PV} {st : List PV} {M : Mem} {Q : Option PV → Mem → Prop} {r : Nat} (hk : mK M r = 12) : WP d 212 17 [l0, l1, l2, l3, l4] (vr r :: st) M Q = WP d 212 20 [l0, l1, l2, l3, l4] (vr (mR M r 36) :: st) M Q := w_getr mC_212 d212_17 fE_12_72 rfl (by rw [hk]; rfl)
theorem d212_20 : decode cX12_unlike 20 = .ok (.iload_n 1, 1) := by decide +kernel
theorem k212_20 {d : Nat} {x : Int32} {l0 l2 l3 l4 : Option PV} {st : List PV} {M : Mem} {Q : Option PV → Mem → Prop} : WP d 212 20 [l0, some (vi x), l2, l3, l4] (st) M Q = WP d 212 21 [l0, some (vi x), l2, l3, l4] (vi x :: st) M Q := w1 mC_212 d212_20 rfl rfl
theorem d212_21 : decode cX12_unlike 21 = .ok (.iaload, 1) := by decide +kernel
theorem k212_21 {d : Nat} {l0 l1 l2 l3 l4 : Option PV} {st : List PV} {M : Mem} {Q : Option PV → Mem → Prop} {r : Nat} {j : Int32} (hk : mK M r = 13) (hj : inb j (mN M r)) (h1 : r ≠ 1) : WP d 212 21 [l0, l1, l2, l3, l4] (vi j :: vr r :: st) M Q = WP d 212 22 [l0, l1, l2, l3, l4] (vi (mI M r (ix j)) :: st) M Q := w_iald mC_212 d212_21 (by decide) hk hj h1
theorem d212_22 : decode cX12_unlike 22 = .ok (.if_icmp .ge 61, 3) := by decide +kernel
theorem k212_22 {d : Nat} {l0 l1 l2 l3 l4 : Option PV} {st : List PV} {M : Mem} {Q : Option PV → Mem → Prop} {x y : Int32} : WP d 212 22 [l0, l1, l2, l3, l4] (vi y :: vi x :: st) M Q = (if y ≤ x then WP d 212 83 [l0, l1, l2, l3, l4] (st) M Q else WP d 212 25 [l0, l1, l2, l3, l4] (st) M Q) := w_ic_ge mC_212 d212_22 (by decide)
theorem d212_25 : decode cX12_unlike 25 = .ok (.iload 4, 2) := by decide +kernel
theorem k212_25 {d : Nat} {x : Int32} {l0 l1 l2 l3 : Option PV} {st : List PV} {M : Mem} {Q : Option PV → Mem → Prop} : WP d 212 25 [l0, l1, l2, l3, some (vi x)] (st) M Q = WP d 212 27 [l0, l1, l2, l3, some (vi x)] (vi x :: st) M Q := w1 mC_212 d212_25 rfl rfl
theorem d212_27 : decode cX12_unlike 27 = .ok (.bipush 41, 2) := by decide +kernel
theorem k212_27 {d : Nat} {l0 l1 l2 l3 l4 : Option PV} {st : List PV} {M : Mem} {Q : Option PV → Mem → Prop} : WP d 212 27 [l0, l1, l2, l3, l4] (st) M Q = WP d 212 29 [l0, l1, l2, l3, l4] (vi 41 :: st) M Q := w_bipush mC_212 d212_27 (by decide)
theorem d212_29 : decode cX12_unlike 29 = .ok (.if_icmp .ge 54, 3) := by decide +kernel
theorem k212_29 {d : Nat} {l0 l1 l2 l3 l4 : Option PV} {st : List PV} {M : Mem} {Q : Option PV → Mem → Prop} {x y : Int32} : WP d 212 29 [l0, l1, l2, l3, l4] (vi y :: vi x :: st) M Q = (if y ≤ x then WP d 212 83 [l0, l1, l2, l3, l4] (st) M Q else WP d 212 32 [l0, l1, l2, l3, l4] (st) M Q) := w_ic_ge mC_212 d212_29 (by decide)
theorem d212_32 : decode cX12_unlike 32 = .ok (.iload_n 3, 1) := by decide +kernel
theorem k212_32 {d : Nat} {x : Int32} {l0 l1 l2 l4 : Option PV} {st : List PV} {M : Mem} {Q : Option PV → Mem → Prop} : WP d 212 32 [l0, l1, l2, some (vi x), l4] (st) M Q = WP d 212 33 [l0, l1, l2, some (vi x), l4] (vi x :: st) M Q := w1 mC_212 d212_32 rfl rfl
theorem d212_33 : decode cX12_unlike 33 = .ok (.bipush (-2), 2) := by decide +kernel
theorem k212_33 {d : Nat} {l0 l1 l2 l3 l4 : Option PV} {st : List PV} {M : Mem} {Q : Option PV → Mem → Prop} : WP d 212 33 [l0, l1, l2, l3, l4] (st) M Q = WP d 212 35 [l0, l1, l2, l3, l4] (vi (-2) :: st) M Q := w_bipush mC_212 d212_33 (by decide)
theorem d212_35 : decode cX12_unlike 35 = .ok (.if_icmp .ne 48, 3) := by decide +kernel
theorem k212_35 {d : Nat} {l0 l1 l2 l3 l4 : Option PV} {st : List PV} {M : Mem} {Q : Option PV → Mem → Prop} {x y : Int32} : WP d 212 35 [l0, l1, l2, l3, l4] (vi y :: vi x :: st) M Q = (if x = y then WP d 212 38 [l0, l1, l2, l3, l4] (st) M Q else WP d 212 83 [l0, l1, l2, l3, l4] (st) M Q) := w_ic_ne mC_212 d212_35 (by decide)
theorem d212_38 : decode cX12_unlike 38 = .ok (.iload 4, 2) := by decide +kernel
theorem k212_38 {d : Nat} {x : Int32} {l0 l1 l2 l3 : Option PV} {st : List PV} {M : Mem} {Q : Option PV → Mem → Prop} : WP d 212 38 [l0, l1, l2, l3, some (vi x)] (st) M Q = WP d 212 40 [l0, l1, l2, l3, some (vi x)] (vi x :: st) M Q := w1 mC_212 d212_38 rfl rfl
theorem d212_40 : decode cX12_unlike 40 = .ok (.ifCond .le 7, 3) := by decide +kernel
theorem k212_40 {d : Nat} {l0 l1 l2 l3 l4 : Option PV} {st : List PV} {M : Mem} {Q : Option PV → Mem → Prop} {x : Int32} : WP d 212 40 [l0, l1, l2, l3, l4] (vi x :: st) M Q = (if x ≤ 0 then WP d 212 47 [l0, l1, l2, l3, l4] (st) M Q else WP d 212 43 [l0, l1, l2, l3, l4] (st) M Q) := w_if_le mC_212 d212_40 (by decide)
theorem d212_43 : decode cX12_unlike 43 = .ok (.aload_n 0, 1) := by decide +kernel
theorem k212_43 {d x : Nat} {l1 l2 l3 l4 : Option PV} {st : List PV} {M : Mem} {Q : Option PV → Mem → Prop} : WP d 212 43 [some (vr x), l1, l2, l3, l4] (st) M Q = WP d 212 44 [some (vr x), l1, l2, l3, l4] (vr x :: st) M Q := w1 mC_212 d212_43 rfl rfl
theorem d212_44 : decode cX12_unlike 44 = .ok (.invokevirtual 265, 3) := by decide +kernel
theorem k212_44 {d : Nat} {l0 l1 l2 l3 l4 : Option PV} {st : List PV} {M : Mem} {Q : Option PV → Mem → Prop} {r : Nat} (hl : szL st ≤ 8) (hk : mK M r = 12) : WP (d + 1) 212 44 [l0, l1, l2, l3, l4] (vr r :: st) M Q = WP d 188 0 [some (vr r), none] [] M (fun v M' => WP (d + 1) 212 47 [l0, l1, l2, l3, l4] (psh v st) M' Q) := w_callV mC_212 d212_44 (ci := 12) rfl rfl rfl (Nat.le_of_ble_eq_true rfl) (by decide) rfl hl hk
theorem d212_47 : decode cX12_unlike 47 = .ok (.aload_n 0, 1) := by decide +kernel
theorem k212_47 {d x : Nat} {l1 l2 l3 l4 : Option PV} {st : List PV} {M : Mem} {Q : Option PV → Mem → Prop} : WP d 212 47 [some (vr x), l1, l2, l3, l4] (st) M Q = WP d 212 48 [some (vr x), l1, l2, l3, l4] (vr x :: st) M Q := w1 mC_212 d212_47 rfl rfl
theorem d212_48 : decode cX12_unlike 48 = .ok (.iload_n 1, 1) := by decide +kernel
theorem k212_48 {d : Nat} {x : Int32} {l0 l2 l3 l4 : Option PV} {st : List PV} {M : Mem} {Q : Option PV → Mem → Prop} : WP d 212 48 [l0, some (vi x), l2, l3, l4] (st) M Q = WP d 212 49 [l0, some (vi x), l2, l3, l4] (vi x :: st) M Q := w1 mC_212 d212_48 rfl rfl
theorem d212_49 : decode cX12_unlike 49 = .ok (.iload 4, 2) := by decide +kernel
theorem k212_49 {d : Nat} {x : Int32} {l0 l1 l2 l3 : Option PV} {st : List PV} {M : Mem} {Q : Option PV → Mem → Prop} : WP d 212 49 [l0, l1, l2, l3, some (vi x)] (st) M Q = WP d 212 51 [l0, l1, l2, l3, some (vi x)] (vi x :: st) M Q := w1 mC_212 d212_49 rfl rfl
theorem d212_51 : decode cX12_unlike 51 = .ok (.invokevirtual 127, 3) := by decide +kernel
theorem k212_51 {d : Nat} {l0 l1 l2 l3 l4 : Option PV} {st : List PV} {M : Mem} {Q : Option PV → Mem → Prop} {a0 a1 : Int32} {r : Nat} (hl : szL st ≤ 8) (hk : mK M r = 12) : WP (d + 1) 212 51 [l0, l1, l2, l3, l4] (vi a1 :: vi a0 :: vr r :: st) M Q = WP d 155 0 [some (vr r), some (vi a0), some (vi a1)] [] M (fun v M' => WP (d + 1) 212 54 [l0, l1, l2, l3, l4] (psh v st) M' Q) := w_callV mC_212 d212_51 (ci := 12) rfl rfl rfl (Nat.le_of_ble_eq_true rfl) (by decide) rfl hl hk
theorem d212_54 : decode cX12_unlike 54 = .ok (.bipush 100, 2) := by decide +kernel
theorem k212_54 {d : Nat} {l0 l1 l2 l3 l4 : Option PV} {st : List PV} {M : Mem} {Q : Option PV → Mem → Prop} : WP d 212 54 [l0, l1, l2, l3, l4] (st) M Q = WP d 212 56 [l0, l1, l2, l3, l4] (vi 100 :: st) M Q := w_bipush mC_212 d212_54 (by decide)
theorem d212_56 : decode cX12_unlike 56 = .ok (.if_icmp .eq 21, 3) := by decide +kernel
theorem k212_56 {d : Nat} {l0 l1 l2 l3 l4 : Option PV} {st : List PV} {M : Mem} {Q : Option PV → Mem → Prop} {x y : Int32} : WP d 212 56 [l0, l1, l2, l3, l4] (vi y :: vi x :: st) M Q = (if x = y then WP d 212 77 [l0, l1, l2, l3, l4] (st) M Q else WP d 212 59 [l0, l1, l2, l3, l4] (st) M Q) := w_ic_eq mC_212 d212_56 (by decide)
theorem d212_59 : decode cX12_unlike 59 = .ok (.aload_n 0, 1) := by decide +kernel
theorem k212_59 {d x : Nat} {l1 l2 l3 l4 : Option PV} {st : List PV} {M : Mem} {Q : Option PV → Mem → Prop} : WP d 212 59 [some (vr x), l1, l2, l3, l4] (st) M Q = WP d 212 60 [some (vr x), l1, l2, l3, l4] (vr x :: st) M Q := w1 mC_212 d212_59 rfl rfl
theorem d212_60 : decode cX12_unlike 60 = .ok (.iload_n 1, 1) := by decide +kernel
theorem k212_60 {d : Nat} {x : Int32} {l0 l2 l3 l4 : Option PV} {st : List PV} {M : Mem} {Q : Option PV → Mem → Prop} : WP d 212 60 [l0, some (vi x), l2, l3, l4] (st) M Q = WP d 212 61 [l0, some (vi x), l2, l3, l4] (vi x :: st) M Q := w1 mC_212 d212_60 rfl rfl
theorem d212_61 : decode cX12_unlike 61 = .ok (.iload 4, 2) := by decide +kernel
theorem k212_61 {d : Nat} {x : Int32} {l0 l1 l2 l3 : Option PV} {st : List PV} {M : Mem} {Q : Option PV → Mem → Prop} : WP d 212 61 [l0, l1, l2, l3, some (vi x)] (st) M Q = WP d 212 63 [l0, l1, l2, l3, some (vi x)] (vi x :: st) M Q := w1 mC_212 d212_61 rfl rfl
theorem d212_63 : decode cX12_unlike 63 = .ok (.invokevirtual 127, 3) := by decide +kernel
theorem k212_63 {d : Nat} {l0 l1 l2 l3 l4 : Option PV} {st : List PV} {M : Mem} {Q : Option PV → Mem → Prop} {a0 a1 : Int32} {r : Nat} (hl : szL st ≤ 8) (hk : mK M r = 12) : WP (d + 1) 212 63 [l0, l1, l2, l3, l4] (vi a1 :: vi a0 :: vr r :: st) M Q = WP d 155 0 [some (vr r), some (vi a0), some (vi a1)] [] M (fun v M' => WP (d + 1) 212 66 [l0, l1, l2, l3, l4] (psh v st) M' Q) := w_callV mC_212 d212_63 (ci := 12) rfl rfl rfl (Nat.le_of_ble_eq_true rfl) (by decide) rfl hl hk
theorem d212_66 : decode cX12_unlike 66 = .ok (.aload_n 0, 1) := by decide +kernel
theorem k212_66 {d x : Nat} {l1 l2 l3 l4 : Option PV} {st : List PV} {M : Mem} {Q : Option PV → Mem → Prop} : WP d 212 66 [some (vr x), l1, l2, l3, l4] (st) M Q = WP d 212 67 [some (vr x), l1, l2, l3, l4] (vr x :: st) M Q := w1 mC_212 d212_66 rfl rfl
theorem d212_67 : decode cX12_unlike 67 = .ok (.iload_n 2, 1) := by decide +kernel
theorem k212_67 {d : Nat} {x : Int32} {l0 l1 l3 l4 : Option PV} {st : List PV} {M : Mem} {Q : Option PV → Mem → Prop} : WP d 212 67 [l0, l1, some (vi x), l3, l4] (st) M Q = WP d 212 68 [l0, l1, some (vi x), l3, l4] (vi x :: st) M Q := w1 mC_212 d212_67 rfl rfl
theorem d212_68 : decode cX12_unlike 68 = .ok (.invokevirtual 228, 3) := by decide +kernel
theorem k212_68 {d : Nat} {l0 l1 l2 l3 l4 : Option PV} {st : List PV} {M : Mem} {Q : Option PV → Mem → Prop} {a0 : Int32} {r : Nat} (hl : szL st ≤ 8) (hk : mK M r = 12) : WP (d + 1) 212 68 [l0, l1, l2, l3, l4] (vi a0 :: vr r :: st) M Q = WP d 182 0 [some (vr r), some (vi a0)] [] M (fun v M' => WP (d + 1) 212 71 [l0, l1, l2, l3, l4] (psh v st) M' Q) := w_callV mC_212 d212_68 (ci := 12) rfl rfl rfl (Nat.le_of_ble_eq_true rfl) (by decide) rfl hl hk
theorem d212_71 : decode cX12_unlike 71 = .ok (.if_icmp .eq 6, 3) := by decide +kernel
theorem k212_71 {d : Nat} {l0 l1 l2 l3 l4 : Option PV} {st : List PV} {M : Mem} {Q : Option PV → Mem → Prop} {x y : Int32} : WP d 212 71 [l0, l1, l2, l3, l4] (vi y :: vi x :: st) M Q = (if x = y then WP d 212 77 [l0, l1, l2, l3, l4] (st) M Q else WP d 212 74 [l0, l1, l2, l3, l4] (st) M Q) := w_ic_eq mC_212 d212_71 (by decide)
theorem d212_74 : decode cX12_unlike 74 = .ok (.iload 4, 2) := by decide +kernel
theorem k212_74 {d : Nat} {x : Int32} {l0 l1 l2 l3 : Option PV} {st : List PV} {M : Mem} {Q : Option PV → Mem → Prop} : WP d 212 74 [l0, l1, l2, l3, some (vi x)] (st) M Q = WP d 212 76 [l0, l1, l2, l3, some (vi x)] (vi x :: st) M Q := w1 mC_212 d212_74 rfl rfl
theorem d212_76 : decode cX12_unlike 76 = .ok (.istore_n 3, 1) := by decide +kernel
theorem k212_76 {d : Nat} {l0 l1 l2 l3 l4 : Option PV} {st : List PV} {M : Mem} {Q : Option PV → Mem → Prop} {x : Int32} : WP d 212 76 [l0, l1, l2, l3, l4] (vi x :: st) M Q = WP d 212 77 [l0, l1, l2, some (vi x), l4] (st) M Q := w1 mC_212 d212_76 rfl rfl
theorem d212_77 : decode cX12_unlike 77 = .ok (.iinc 4 1, 3) := by decide +kernel
theorem k212_77 {d : Nat} {x : Int32} {l0 l1 l2 l3 : Option PV} {st : List PV} {M : Mem} {Q : Option PV → Mem → Prop} : WP d 212 77 [l0, l1, l2, l3, some (vi x)] (st) M Q = WP d 212 80 [l0, l1, l2, l3, some (vi (x + 1))] (st) M Q := w_iinc mC_212 d212_77 rfl (by decide) rfl
theorem d212_80 : decode cX12_unlike 80 = .ok (.goto (-66), 3) := by decide +kernel
theorem k212_80 {d : Nat} {l0 l1 l2 l3 l4 : Option PV} {st : List PV} {M : Mem} {Q : Option PV → Mem → Prop} : WP d 212 80 [l0, l1, l2, l3, l4] (st) M Q = WP d 212 14 [l0, l1, l2, l3, l4] (st) M Q := w_goto mC_212 d212_80 (by decide)
theorem d212_83 : decode cX12_unlike 83 = .ok (.aload_n 0, 1) := by decide +kernel
theorem k212_83 {d x : Nat} {l1 l2 l3 l4 : Option PV} {st : List PV} {M : Mem} {Q : Option PV → Mem → Prop} : WP d 212 83 [some (vr x), l1, l2, l3, l4] (st) M Q = WP d 212 84 [some (vr x), l1, l2, l3, l4] (vr x :: st) M Q := w1 mC_212 d212_83 rfl rfl
theorem d212_84 : decode cX12_unlike 84 = .ok (.invokevirtual 279, 3) := by decide +kernel
theorem k212_84 {d : Nat} {l0 l1 l2 l3 l4 : Option PV} {st : List PV} {M : Mem} {Q : Option PV → Mem → Prop} {r : Nat} (hl : szL st ≤ 8) (hk : mK M r = 12) : WP (d + 1) 212 84 [l0, l1, l2, l3, l4] (vr r :: st) M Q = WP d 192 0 [some (vr r)] [] M (fun v M' => WP (d + 1) 212 87 [l0, l1, l2, l3, l4] (psh v st) M' Q) := w_callV mC_212 d212_84 (ci := 12) rfl rfl rfl (Nat.le_of_ble_eq_true rfl) (by decide) rfl hl hk
theorem d212_87 : decode cX12_unlike 87 = .ok (.iload_n 3, 1) := by decide +kernel
theorem k212_87 {d : Nat} {x : Int32} {l0 l1 l2 l4 : Option PV} {st : List PV} {M : Mem} {Q : Option PV → Mem → Prop} : WP d 212 87 [l0, l1, l2, some (vi x), l4] (st) M Q = WP d 212 88 [l0, l1, l2, some (vi x), l4] (vi x :: st) M Q := w1 mC_212 d212_87 rfl rfl
theorem d212_88 : decode cX12_unlike 88 = .ok (.ireturn, 1) := by decide +kernel
theorem k212_88 {d : Nat} {l0 l1 l2 l3 l4 : Option PV} {M : Mem} {Q : Option PV → Mem → Prop} {x : Int32} : WP d 212 88 [l0, l1, l2, l3, l4] ([vi x]) M Q = Q (some (vi x)) M := w_iret mC_212 d212_88 rfl
theorem d213_0 : decode cX12_judge 0 = .ok (.iload_n 1, 1) := by decide +kernel
theorem k213_0 {d : Nat} {x : Int32} {l0 l2 l3 : Option PV} {st : List PV} {M : Mem} {Q : Option PV → Mem → Prop} : WP d 213 0 [l0, some (vi x), l2, l3] (st) M Q = WP d 213 1 [l0, some (vi x), l2, l3] (vi x :: st) M Q := w1 mC_213 d213_0 rfl rfl
theorem d213_1 : decode cX12_judge 1 = .ok (.invokestatic 122, 3) := by decide +kernel
theorem k213_1 {d : Nat} {l0 l1 l2 l3 : Option PV} {st : List PV} {M : Mem} {Q : Option PV → Mem → Prop} {a0 : Int32} (hl : szL st ≤ 8) : WP (d + 1) 213 1 [l0, l1, l2, l3] (vi a0 :: st) M Q = WP d 149 0 [some (vi a0)] [] M (fun v M' => WP (d + 1) 213 4 [l0, l1, l2, l3] (psh v st) M' Q) := w_callS mC_213 d213_1 rfl rfl (Nat.le_of_ble_eq_true rfl) (by decide) rfl hl
theorem d213_4 : decode cX12_judge 4 = .ok (.ifCond .eq 11, 3) := by decide +kernel
theorem k213_4 {d : Nat} {l0 l1 l2 l3 : Option PV} {st : List PV} {M : Mem} {Q : Option PV → Mem → Prop} {x : Int32} : WP d 213 4 [l0, l1, l2, l3] (vi x :: st) M Q = (if x = 0 then WP d 213 15 [l0, l1, l2, l3] (st) M Q else WP d 213 7 [l0, l1, l2, l3] (st) M Q) := w_if_eq mC_213 d213_4 (by decide)
theorem d213_7 : decode cX12_judge 7 = .ok (.aload_n 0, 1) := by decide +kernel
theorem k213_7 {d x : Nat} {l1 l2 l3 : Option PV} {st : List PV} {M : Mem} {Q : Option PV → Mem → Prop} : WP d 213 7 [some (vr x), l1, l2, l3] (st) M Q = WP d 213 8 [some (vr x), l1, l2, l3] (vr x :: st) M Q := w1 mC_213 d213_7 rfl rfl
theorem d213_8 : decode cX12_judge 8 = .ok (.iload_n 2, 1) := by decide +kernel
theorem k213_8 {d : Nat} {x : Int32} {l0 l1 l3 : Option PV} {st : List PV} {M : Mem} {Q : Option PV → Mem → Prop} : WP d 213 8 [l0, l1, some (vi x), l3] (st) M Q = WP d 213 9 [l0, l1, some (vi x), l3] (vi x :: st) M Q := w1 mC_213 d213_8 rfl rfl
theorem d213_9 : decode cX12_judge 9 = .ok (.invokevirtual 134, 3) := by decide +kernel
theorem k213_9 {d : Nat} {l0 l1 l2 l3 : Option PV} {st : List PV} {M : Mem} {Q : Option PV → Mem → Prop} {a0 : Int32} {r : Nat} (hl : szL st ≤ 8) (hk : mK M r = 12) : WP (d + 1) 213 9 [l0, l1, l2, l3] (vi a0 :: vr r :: st) M Q = WP d 147 0 [some (vr r), some (vi a0)] [] M (fun v M' => WP (d + 1) 213 12 [l0, l1, l2, l3] (psh v st) M' Q) := w_callV mC_213 d213_9 (ci := 12) rfl rfl rfl (Nat.le_of_ble_eq_true rfl) (by decide) rfl hl hk
theorem d213_12 : decode cX12_judge 12 = .ok (.ifCond .ne 5, 3) := by decide +kernel
theorem k213_12 {d : Nat} {l0 l1 l2 l3 : Option PV} {st : List PV} {M : Mem} {Q : Option PV → Mem → Prop} {x : Int32} : WP d 213 12 [l0, l1, l2, l3] (vi x :: st) M Q = (if x = 0 then WP d 213 15 [l0, l1, l2, l3] (st) M Q else WP d 213 17 [l0, l1, l2, l3] (st) M Q) := w_if_ne mC_213 d213_12 (by decide)
theorem d213_15 : decode cX12_judge 15 = .ok (.iconst (-1), 1) := by decide +kernel
theorem k213_15 {d : Nat} {l0 l1 l2 l3 : Option PV} {st : List PV} {M : Mem} {Q : Option PV → Mem → Prop} : WP d 213 15 [l0, l1, l2, l3] (st) M Q = WP d 213 16 [l0, l1, l2, l3] (vi (-1) :: st) M Q := w_iconst mC_213 d213_15 (by decide)
theorem d213_16 : decode cX12_judge 16 = .ok (.ireturn, 1) := by decide +kernel
theorem k213_16 {d : Nat} {l0 l1 l2 l3 : Option PV} {M : Mem} {Q : Option PV → Mem → Prop} {x : Int32} : WP d 213 16 [l0, l1, l2, l3] ([vi x]) M Q = Q (some (vi x)) M := w_iret mC_213 d213_16 rfl
theorem d213_17 : decode cX12_judge 17 = .ok (.aload_n 0, 1) := by decide +kernel
theorem k213_17 {d x : Nat} {l1 l2 l3 : Option PV} {st : List PV} {M : Mem} {Q : Option PV → Mem → Prop} : WP d 213 17 [some (vr x), l1, l2, l3] (st) M Q = WP d 213 18 [some (vr x), l1, l2, l3] (vr x :: st) M Q := w1 mC_213 d213_17 rfl rfl
theorem d213_18 : decode cX12_judge 18 = .ok (.iload_n 1, 1) := by decide +kernel
theorem k213_18 {d : Nat} {x : Int32} {l0 l2 l3 : Option PV} {st : List PV} {M : Mem} {Q : Option PV → Mem → Prop} : WP d 213 18 [l0, some (vi x), l2, l3] (st) M Q = WP d 213 19 [l0, some (vi x), l2, l3] (vi x :: st) M Q := w1 mC_213 d213_18 rfl rfl
theorem d213_19 : decode cX12_judge 19 = .ok (.invokevirtual 316, 3) := by decide +kernel
theorem k213_19 {d : Nat} {l0 l1 l2 l3 : Option PV} {st : List PV} {M : Mem} {Q : Option PV → Mem → Prop} {a0 : Int32} {r : Nat} (hl : szL st ≤ 8) (hk : mK M r = 12) : WP (d + 1) 213 19 [l0, l1, l2, l3] (vi a0 :: vr r :: st) M Q = WP d 211 0 [some (vr r), some (vi a0)] [] M (fun v M' => WP (d + 1) 213 22 [l0, l1, l2, l3] (psh v st) M' Q) := w_callV mC_213 d213_19 (ci := 12) rfl rfl rfl (Nat.le_of_ble_eq_true rfl) (by decide) rfl hl hk
theorem d213_22 : decode cX12_judge 22 = .ok (.istore_n 3, 1) := by decide +kernel
theorem k213_22 {d : Nat} {l0 l1 l2 l3 : Option PV} {st : List PV} {M : Mem} {Q : Option PV → Mem → Prop} {x : Int32} : WP d 213 22 [l0, l1, l2, l3] (vi x :: st) M Q = WP d 213 23 [l0, l1, l2, some (vi x)] (st) M Q := w1 mC_213 d213_22 rfl rfl
theorem d213_23 : decode cX12_judge 23 = .ok (.iload_n 3, 1) := by decide +kernel
theorem k213_23 {d : Nat} {x : Int32} {l0 l1 l2 : Option PV} {st : List PV} {M : Mem} {Q : Option PV → Mem → Prop} : WP d 213 23 [l0, l1, l2, some (vi x)] (st) M Q = WP d 213 24 [l0, l1, l2, some (vi x)] (vi x :: st) M Q := w1 mC_213 d213_23 rfl rfl
theorem d213_24 : decode cX12_judge 24 = .ok (.ifCond .ge 7, 3) := by decide +kernel
theorem k213_24 {d : Nat} {l0 l1 l2 l3 : Option PV} {st : List PV} {M : Mem} {Q : Option PV → Mem → Prop} {x : Int32} : WP d 213 24 [l0, l1, l2, l3] (vi x :: st) M Q = (if 0 ≤ x then WP d 213 31 [l0, l1, l2, l3] (st) M Q else WP d 213 27 [l0, l1, l2, l3] (st) M Q) := w_if_ge mC_213 d213_24 (by decide)
theorem d213_27 : decode cX12_judge 27 = .ok (.iload_n 3, 1) := by decide +kernel
theorem k213_27 {d : Nat} {x : Int32} {l0 l1 l2 : Option PV} {st : List PV} {M : Mem} {Q : Option PV → Mem → Prop} : WP d 213 27 [l0, l1, l2, some (vi x)] (st) M Q = WP d 213 28 [l0, l1, l2, some (vi x)] (vi x :: st) M Q := w1 mC_213 d213_27 rfl rfl
theorem d213_28 : decode cX12_judge 28 = .ok (.goto 9, 3) := by decide +kernel
theorem k213_28 {d : Nat} {l0 l1 l2 l3 : Option PV} {st : List PV} {M : Mem} {Q : Option PV → Mem → Prop} : WP d 213 28 [l0, l1, l2, l3] (st) M Q = WP d 213 37 [l0, l1, l2, l3] (st) M Q := w_goto mC_213 d213_28 (by decide)
theorem d213_31 : decode cX12_judge 31 = .ok (.aload_n 0, 1) := by decide +kernel
theorem k213_31 {d x : Nat} {l1 l2 l3 : Option PV} {st : List PV} {M : Mem} {Q : Option PV → Mem → Prop} : WP d 213 31 [some (vr x), l1, l2, l3] (st) M Q = WP d 213 32 [some (vr x), l1, l2, l3] (vr x :: st) M Q := w1 mC_213 d213_31 rfl rfl
theorem d213_32 : decode cX12_judge 32 = .ok (.iload_n 1, 1) := by decide +kernel
theorem k213_32 {d : Nat} {x : Int32} {l0 l2 l3 : Option PV} {st : List PV} {M : Mem} {Q : Option PV → Mem → Prop} : WP d 213 32 [l0, some (vi x), l2, l3] (st) M Q = WP d 213 33 [l0, some (vi x), l2, l3] (vi x :: st) M Q := w1 mC_213 d213_32 rfl rfl
theorem d213_33 : decode cX12_judge 33 = .ok (.iload_n 2, 1) := by decide +kernel
theorem k213_33 {d : Nat} {x : Int32} {l0 l1 l3 : Option PV} {st : List PV} {M : Mem} {Q : Option PV → Mem → Prop} : WP d 213 33 [l0, l1, some (vi x), l3] (st) M Q = WP d 213 34 [l0, l1, some (vi x), l3] (vi x :: st) M Q := w1 mC_213 d213_33 rfl rfl
theorem d213_34 : decode cX12_judge 34 = .ok (.invokevirtual 319, 3) := by decide +kernel
theorem k213_34 {d : Nat} {l0 l1 l2 l3 : Option PV} {st : List PV} {M : Mem} {Q : Option PV → Mem → Prop} {a0 a1 : Int32} {r : Nat} (hl : szL st ≤ 8) (hk : mK M r = 12) : WP (d + 1) 213 34 [l0, l1, l2, l3] (vi a1 :: vi a0 :: vr r :: st) M Q = WP d 212 0 [some (vr r), some (vi a0), some (vi a1), none, none] [] M (fun v M' => WP (d + 1) 213 37 [l0, l1, l2, l3] (psh v st) M' Q) := w_callV mC_213 d213_34 (ci := 12) rfl rfl rfl (Nat.le_of_ble_eq_true rfl) (by decide) rfl hl hk
theorem d213_37 : decode cX12_judge 37 = .ok (.ireturn, 1) := by decide +kernel
theorem k213_37 {d : Nat} {l0 l1 l2 l3 : Option PV} {M : Mem} {Q : Option PV → Mem → Prop} {x : Int32} : WP d 213 37 [l0, l1, l2, l3] ([vi x]) M Q = Q (some (vi x)) M := w_iret mC_213 d213_37 rfl
theorem d214_0 : decode cX12_fits 0 = .ok (.iload_n 1, 1) := by decide +kernel
theorem k214_0 {d : Nat} {x : Int32} {l0 l2 l3 l4 l5 l6 l7 l8 : Option PV} {st : List PV} {M : Mem} {Q : Option PV → Mem → Prop} : WP d 214 0 [l0, some (vi x), l2, l3, l4, l5, l6, l7, l8] (st) M Q = WP d 214 1 [l0, some (vi x), l2, l3, l4, l5, l6, l7, l8] (vi x :: st) M Q := w1 mC_214 d214_0 rfl rfl
theorem d214_1 : decode cX12_fits 1 = .ok (.invokestatic 122, 3) := by decide +kernel
theorem k214_1 {d : Nat} {l0 l1 l2 l3 l4 l5 l6 l7 l8 : Option PV} {st : List PV} {M : Mem} {Q : Option PV → Mem → Prop} {a0 : Int32} (hl : szL st ≤ 8) : WP (d + 1) 214 1 [l0, l1, l2, l3, l4, l5, l6, l7, l8] (vi a0 :: st) M Q = WP d 149 0 [some (vi a0)] [] M (fun v M' => WP (d + 1) 214 4 [l0, l1, l2, l3, l4, l5, l6, l7, l8] (psh v st) M' Q) := w_callS mC_214 d214_1 rfl rfl (Nat.le_of_ble_eq_true rfl) (by decide) rfl hl
theorem d214_4 : decode cX12_fits 4 = .ok (.ifCond .eq 20, 3) := by decide +kernel
theorem k214_4 {d : Nat} {l0 l1 l2 l3 l4 l5 l6 l7 l8 : Option PV} {st : List PV} {M : Mem} {Q : Option PV → Mem → Prop} {x : Int32} : WP d 214 4 [l0, l1, l2, l3, l4, l5, l6, l7, l8] (vi x :: st) M Q = (if x = 0 then WP d 214 24 [l0, l1, l2, l3, l4, l5, l6, l7, l8] (st) M Q else WP d 214 7 [l0, l1, l2, l3, l4, l5, l6, l7, l8] (st) M Q) := w_if_eq mC_214 d214_4 (by decide)
theorem d214_7 : decode cX12_fits 7 = .ok (.aload_n 0, 1) := by decide +kernel
theorem k214_7 {d x : Nat} {l1 l2 l3 l4 l5 l6 l7 l8 : Option PV} {st : List PV} {M : Mem} {Q : Option PV → Mem → Prop} : WP d 214 7 [some (vr x), l1, l2, l3, l4, l5, l6, l7, l8] (st) M Q = WP d 214 8 [some (vr x), l1, l2, l3, l4, l5, l6, l7, l8] (vr x :: st) M Q := w1 mC_214 d214_7 rfl rfl
theorem d214_8 : decode cX12_fits 8 = .ok (.iload_n 2, 1) := by decide +kernel
theorem k214_8 {d : Nat} {x : Int32} {l0 l1 l3 l4 l5 l6 l7 l8 : Option PV} {st : List PV} {M : Mem} {Q : Option PV → Mem → Prop} : WP d 214 8 [l0, l1, some (vi x), l3, l4, l5, l6, l7, l8] (st) M Q = WP d 214 9 [l0, l1, some (vi x), l3, l4, l5, l6, l7, l8] (vi x :: st) M Q := w1 mC_214 d214_8 rfl rfl
theorem d214_9 : decode cX12_fits 9 = .ok (.invokevirtual 134, 3) := by decide +kernel
theorem k214_9 {d : Nat} {l0 l1 l2 l3 l4 l5 l6 l7 l8 : Option PV} {st : List PV} {M : Mem} {Q : Option PV → Mem → Prop} {a0 : Int32} {r : Nat} (hl : szL st ≤ 8) (hk : mK M r = 12) : WP (d + 1) 214 9 [l0, l1, l2, l3, l4, l5, l6, l7, l8] (vi a0 :: vr r :: st) M Q = WP d 147 0 [some (vr r), some (vi a0)] [] M (fun v M' => WP (d + 1) 214 12 [l0, l1, l2, l3, l4, l5, l6, l7, l8] (psh v st) M' Q) := w_callV mC_214 d214_9 (ci := 12) rfl rfl rfl (Nat.le_of_ble_eq_true rfl) (by decide) rfl hl hk
theorem d214_12 : decode cX12_fits 12 = .ok (.ifCond .eq 12, 3) := by decide +kernel
theorem k214_12 {d : Nat} {l0 l1 l2 l3 l4 l5 l6 l7 l8 : Option PV} {st : List PV} {M : Mem} {Q : Option PV → Mem → Prop} {x : Int32} : WP d 214 12 [l0, l1, l2, l3, l4, l5, l6, l7, l8] (vi x :: st) M Q = (if x = 0 then WP d 214 24 [l0, l1, l2, l3, l4, l5, l6, l7, l8] (st) M Q else WP d 214 15 [l0, l1, l2, l3, l4, l5, l6, l7, l8] (st) M Q) := w_if_eq mC_214 d214_12 (by decide)
theorem d214_15 : decode cX12_fits 15 = .ok (.iload_n 3, 1) := by decide +kernel
theorem k214_15 {d : Nat} {x : Int32} {l0 l1 l2 l4 l5 l6 l7 l8 : Option PV} {st : List PV} {M : Mem} {Q : Option PV → Mem → Prop} : WP d 214 15 [l0, l1, l2, some (vi x), l4, l5, l6, l7, l8] (st) M Q = WP d 214 16 [l0, l1, l2, some (vi x), l4, l5, l6, l7, l8] (vi x :: st) M Q := w1 mC_214 d214_15 rfl rfl
theorem d214_16 : decode cX12_fits 16 = .ok (.iconst 0, 1) := by decide +kernel
theorem k214_16 {d : Nat} {l0 l1 l2 l3 l4 l5 l6 l7 l8 : Option PV} {st : List PV} {M : Mem} {Q : Option PV → Mem → Prop} : WP d 214 16 [l0, l1, l2, l3, l4, l5, l6, l7, l8] (st) M Q = WP d 214 17 [l0, l1, l2, l3, l4, l5, l6, l7, l8] (vi 0 :: st) M Q := w_iconst mC_214 d214_16 (by decide)
theorem d214_17 : decode cX12_fits 17 = .ok (.iconst 1, 1) := by decide +kernel
theorem k214_17 {d : Nat} {l0 l1 l2 l3 l4 l5 l6 l7 l8 : Option PV} {st : List PV} {M : Mem} {Q : Option PV → Mem → Prop} : WP d 214 17 [l0, l1, l2, l3, l4, l5, l6, l7, l8] (st) M Q = WP d 214 18 [l0, l1, l2, l3, l4, l5, l6, l7, l8] (vi 1 :: st) M Q := w_iconst mC_214 d214_17 (by decide)
theorem d214_18 : decode cX12_fits 18 = .ok (.invokestatic 104, 3) := by decide +kernel
theorem k214_18 {d : Nat} {l0 l1 l2 l3 l4 l5 l6 l7 l8 : Option PV} {st : List PV} {M : Mem} {Q : Option PV → Mem → Prop} {a0 a1 a2 : Int32} (hl : szL st ≤ 8) : WP (d + 1) 214 18 [l0, l1, l2, l3, l4, l5, l6, l7, l8] (vi a2 :: vi a1 :: vi a0 :: st) M Q = WP d 145 0 [some (vi a0), some (vi a1), some (vi a2)] [] M (fun v M' => WP (d + 1) 214 21 [l0, l1, l2, l3, l4, l5, l6, l7, l8] (psh v st) M' Q) := w_callS mC_214 d214_18 rfl rfl (Nat.le_of_ble_eq_true rfl) (by decide) rfl hl
theorem d214_21 : decode cX12_fits 21 = .ok (.ifCond .ne 5, 3) := by decide +kernel
theorem k214_21 {d : Nat} {l0 l1 l2 l3 l4 l5 l6 l7 l8 : Option PV} {st : List PV} {M : Mem} {Q : Option PV → Mem → Prop} {x : Int32} : WP d 214 21 [l0, l1, l2, l3, l4, l5, l6, l7, l8] (vi x :: st) M Q = (if x = 0 then WP d 214 24 [l0, l1, l2, l3, l4, l5, l6, l7, l8] (st) M Q else WP d 214 26 [l0, l1, l2, l3, l4, l5, l6, l7, l8] (st) M Q) := w_if_ne mC_214 d214_21 (by decide)
theorem d214_24 : decode cX12_fits 24 = .ok (.iconst (-1), 1) := by decide +kernel
theorem k214_24 {d : Nat} {l0 l1 l2 l3 l4 l5 l6 l7 l8 : Option PV} {st : List PV} {M : Mem} {Q : Option PV → Mem → Prop} : WP d 214 24 [l0, l1, l2, l3, l4, l5, l6, l7, l8] (st) M Q = WP d 214 25 [l0, l1, l2, l3, l4, l5, l6, l7, l8] (vi (-1) :: st) M Q := w_iconst mC_214 d214_24 (by decide)
theorem d214_25 : decode cX12_fits 25 = .ok (.ireturn, 1) := by decide +kernel
theorem k214_25 {d : Nat} {l0 l1 l2 l3 l4 l5 l6 l7 l8 : Option PV} {M : Mem} {Q : Option PV → Mem → Prop} {x : Int32} : WP d 214 25 [l0, l1, l2, l3, l4, l5, l6, l7, l8] ([vi x]) M Q = Q (some (vi x)) M := w_iret mC_214 d214_25 rfl
theorem d214_26 : decode cX12_fits 26 = .ok (.aload_n 0, 1) := by decide +kernel
theorem k214_26 {d x : Nat} {l1 l2 l3 l4 l5 l6 l7 l8 : Option PV} {st : List PV} {M : Mem} {Q : Option PV → Mem → Prop} : WP d 214 26 [some (vr x), l1, l2, l3, l4, l5, l6, l7, l8] (st) M Q = WP d 214 27 [some (vr x), l1, l2, l3, l4, l5, l6, l7, l8] (vr x :: st) M Q := w1 mC_214 d214_26 rfl rfl
theorem d214_27 : decode cX12_fits 27 = .ok (.iload_n 1, 1) := by decide +kernel
theorem k214_27 {d : Nat} {x : Int32} {l0 l2 l3 l4 l5 l6 l7 l8 : Option PV} {st : List PV} {M : Mem} {Q : Option PV → Mem → Prop} : WP d 214 27 [l0, some (vi x), l2, l3, l4, l5, l6, l7, l8] (st) M Q = WP d 214 28 [l0, some (vi x), l2, l3, l4, l5, l6, l7, l8] (vi x :: st) M Q := w1 mC_214 d214_27 rfl rfl
theorem d214_28 : decode cX12_fits 28 = .ok (.invokevirtual 316, 3) := by decide +kernel
theorem k214_28 {d : Nat} {l0 l1 l2 l3 l4 l5 l6 l7 l8 : Option PV} {st : List PV} {M : Mem} {Q : Option PV → Mem → Prop} {a0 : Int32} {r : Nat} (hl : szL st ≤ 8) (hk : mK M r = 12) : WP (d + 1) 214 28 [l0, l1, l2, l3, l4, l5, l6, l7, l8] (vi a0 :: vr r :: st) M Q = WP d 211 0 [some (vr r), some (vi a0)] [] M (fun v M' => WP (d + 1) 214 31 [l0, l1, l2, l3, l4, l5, l6, l7, l8] (psh v st) M' Q) := w_callV mC_214 d214_28 (ci := 12) rfl rfl rfl (Nat.le_of_ble_eq_true rfl) (by decide) rfl hl hk
theorem d214_31 : decode cX12_fits 31 = .ok (.istore 4, 2) := by decide +kernel
theorem k214_31 {d : Nat} {l0 l1 l2 l3 l4 l5 l6 l7 l8 : Option PV} {st : List PV} {M : Mem} {Q : Option PV → Mem → Prop} {x : Int32} : WP d 214 31 [l0, l1, l2, l3, l4, l5, l6, l7, l8] (vi x :: st) M Q = WP d 214 33 [l0, l1, l2, l3, some (vi x), l5, l6, l7, l8] (st) M Q := w1 mC_214 d214_31 rfl rfl
theorem d214_33 : decode cX12_fits 33 = .ok (.iload 4, 2) := by decide +kernel
theorem k214_33 {d : Nat} {x : Int32} {l0 l1 l2 l3 l5 l6 l7 l8 : Option PV} {st : List PV} {M : Mem} {Q : Option PV → Mem → Prop} : WP d 214 33 [l0, l1, l2, l3, some (vi x), l5, l6, l7, l8] (st) M Q = WP d 214 35 [l0, l1, l2, l3, some (vi x), l5, l6, l7, l8] (vi x :: st) M Q := w1 mC_214 d214_33 rfl rfl
theorem d214_35 : decode cX12_fits 35 = .ok (.ifCond .ge 6, 3) := by decide +kernel
theorem k214_35 {d : Nat} {l0 l1 l2 l3 l4 l5 l6 l7 l8 : Option PV} {st : List PV} {M : Mem} {Q : Option PV → Mem → Prop} {x : Int32} : WP d 214 35 [l0, l1, l2, l3, l4, l5, l6, l7, l8] (vi x :: st) M Q = (if 0 ≤ x then WP d 214 41 [l0, l1, l2, l3, l4, l5, l6, l7, l8] (st) M Q else WP d 214 38 [l0, l1, l2, l3, l4, l5, l6, l7, l8] (st) M Q) := w_if_ge mC_214 d214_35 (by decide)
theorem d214_38 : decode cX12_fits 38 = .ok (.iload 4, 2) := by decide +kernel
theorem k214_38 {d : Nat} {x : Int32} {l0 l1 l2 l3 l5 l6 l7 l8 : Option PV} {st : List PV} {M : Mem} {Q : Option PV → Mem → Prop} : WP d 214 38 [l0, l1, l2, l3, some (vi x), l5, l6, l7, l8] (st) M Q = WP d 214 40 [l0, l1, l2, l3, some (vi x), l5, l6, l7, l8] (vi x :: st) M Q := w1 mC_214 d214_38 rfl rfl
theorem d214_40 : decode cX12_fits 40 = .ok (.ireturn, 1) := by decide +kernel
theorem k214_40 {d : Nat} {l0 l1 l2 l3 l4 l5 l6 l7 l8 : Option PV} {M : Mem} {Q : Option PV → Mem → Prop} {x : Int32} : WP d 214 40 [l0, l1, l2, l3, l4, l5, l6, l7, l8] ([vi x]) M Q = Q (some (vi x)) M := w_iret mC_214 d214_40 rfl
theorem d214_41 : decode cX12_fits 41 = .ok (.iconst 3, 1) := by decide +kernel
theorem k214_41 {d : Nat} {l0 l1 l2 l3 l4 l5 l6 l7 l8 : Option PV} {st : List PV} {M : Mem} {Q : Option PV → Mem → Prop} : WP d 214 41 [l0, l1, l2, l3, l4, l5, l6, l7, l8] (st) M Q = WP d 214 42 [l0, l1, l2, l3, l4, l5, l6, l7, l8] (vi 3 :: st) M Q := w_iconst mC_214 d214_41 (by decide)
theorem d214_42 : decode cX12_fits 42 = .ok (.iload_n 3, 1) := by decide +kernel
theorem k214_42 {d : Nat} {x : Int32} {l0 l1 l2 l4 l5 l6 l7 l8 : Option PV} {st : List PV} {M : Mem} {Q : Option PV → Mem → Prop} : WP d 214 42 [l0, l1, l2, some (vi x), l4, l5, l6, l7, l8] (st) M Q = WP d 214 43 [l0, l1, l2, some (vi x), l4, l5, l6, l7, l8] (vi x :: st) M Q := w1 mC_214 d214_42 rfl rfl
theorem d214_43 : decode cX12_fits 43 = .ok (.iadd, 1) := by decide +kernel
theorem k214_43 {d : Nat} {l0 l1 l2 l3 l4 l5 l6 l7 l8 : Option PV} {st : List PV} {M : Mem} {Q : Option PV → Mem → Prop} {x y : Int32} : WP d 214 43 [l0, l1, l2, l3, l4, l5, l6, l7, l8] (vi y :: vi x :: st) M Q = WP d 214 44 [l0, l1, l2, l3, l4, l5, l6, l7, l8] (vi (x + y) :: st) M Q := w1 mC_214 d214_43 rfl rfl
theorem d214_44 : decode cX12_fits 44 = .ok (.istore 5, 2) := by decide +kernel
theorem k214_44 {d : Nat} {l0 l1 l2 l3 l4 l5 l6 l7 l8 : Option PV} {st : List PV} {M : Mem} {Q : Option PV → Mem → Prop} {x : Int32} : WP d 214 44 [l0, l1, l2, l3, l4, l5, l6, l7, l8] (vi x :: st) M Q = WP d 214 46 [l0, l1, l2, l3, l4, some (vi x), l6, l7, l8] (st) M Q := w1 mC_214 d214_44 rfl rfl
theorem d214_46 : decode cX12_fits 46 = .ok (.aload_n 0, 1) := by decide +kernel
theorem k214_46 {d x : Nat} {l1 l2 l3 l4 l5 l6 l7 l8 : Option PV} {st : List PV} {M : Mem} {Q : Option PV → Mem → Prop} : WP d 214 46 [some (vr x), l1, l2, l3, l4, l5, l6, l7, l8] (st) M Q = WP d 214 47 [some (vr x), l1, l2, l3, l4, l5, l6, l7, l8] (vr x :: st) M Q := w1 mC_214 d214_46 rfl rfl
theorem d214_47 : decode cX12_fits 47 = .ok (.iload_n 2, 1) := by decide +kernel
theorem k214_47 {d : Nat} {x : Int32} {l0 l1 l3 l4 l5 l6 l7 l8 : Option PV} {st : List PV} {M : Mem} {Q : Option PV → Mem → Prop} : WP d 214 47 [l0, l1, some (vi x), l3, l4, l5, l6, l7, l8] (st) M Q = WP d 214 48 [l0, l1, some (vi x), l3, l4, l5, l6, l7, l8] (vi x :: st) M Q := w1 mC_214 d214_47 rfl rfl
theorem d214_48 : decode cX12_fits 48 = .ok (.iload 5, 2) := by decide +kernel
theorem k214_48 {d : Nat} {x : Int32} {l0 l1 l2 l3 l4 l6 l7 l8 : Option PV} {st : List PV} {M : Mem} {Q : Option PV → Mem → Prop} : WP d 214 48 [l0, l1, l2, l3, l4, some (vi x), l6, l7, l8] (st) M Q = WP d 214 50 [l0, l1, l2, l3, l4, some (vi x), l6, l7, l8] (vi x :: st) M Q := w1 mC_214 d214_48 rfl rfl
theorem d214_50 : decode cX12_fits 50 = .ok (.invokevirtual 145, 3) := by decide +kernel
theorem k214_50 {d : Nat} {l0 l1 l2 l3 l4 l5 l6 l7 l8 : Option PV} {st : List PV} {M : Mem} {Q : Option PV → Mem → Prop} {a0 a1 : Int32} {r : Nat} (hl : szL st ≤ 8) (hk : mK M r = 12) : WP (d + 1) 214 50 [l0, l1, l2, l3, l4, l5, l6, l7, l8] (vi a1 :: vi a0 :: vr r :: st) M Q = WP d 158 0 [some (vr r), some (vi a0), some (vi a1)] [] M (fun v M' => WP (d + 1) 214 53 [l0, l1, l2, l3, l4, l5, l6, l7, l8] (psh v st) M' Q) := w_callV mC_214 d214_50 (ci := 12) rfl rfl rfl (Nat.le_of_ble_eq_true rfl) (by decide) rfl hl hk
theorem d214_53 : decode cX12_fits 53 = .ok (.istore 6, 2) := by decide +kernel
theorem k214_53 {d : Nat} {l0 l1 l2 l3 l4 l5 l6 l7 l8 : Option PV} {st : List PV} {M : Mem} {Q : Option PV → Mem → Prop} {x : Int32} : WP d 214 53 [l0, l1, l2, l3, l4, l5, l6, l7, l8] (vi x :: st) M Q = WP d 214 55 [l0, l1, l2, l3, l4, l5, some (vi x), l7, l8] (st) M Q := w1 mC_214 d214_53 rfl rfl
theorem d214_55 : decode cX12_fits 55 = .ok (.iconst 0, 1) := by decide +kernel
theorem k214_55 {d : Nat} {l0 l1 l2 l3 l4 l5 l6 l7 l8 : Option PV} {st : List PV} {M : Mem} {Q : Option PV → Mem → Prop} : WP d 214 55 [l0, l1, l2, l3, l4, l5, l6, l7, l8] (st) M Q = WP d 214 56 [l0, l1, l2, l3, l4, l5, l6, l7, l8] (vi 0 :: st) M Q := w_iconst mC_214 d214_55 (by decide)
theorem d214_56 : decode cX12_fits 56 = .ok (.istore 7, 2) := by decide +kernel
theorem k214_56 {d : Nat} {l0 l1 l2 l3 l4 l5 l6 l7 l8 : Option PV} {st : List PV} {M : Mem} {Q : Option PV → Mem → Prop} {x : Int32} : WP d 214 56 [l0, l1, l2, l3, l4, l5, l6, l7, l8] (vi x :: st) M Q = WP d 214 58 [l0, l1, l2, l3, l4, l5, l6, some (vi x), l8] (st) M Q := w1 mC_214 d214_56 rfl rfl
theorem d214_58 : decode cX12_fits 58 = .ok (.iload_n 3, 1) := by decide +kernel
theorem k214_58 {d : Nat} {x : Int32} {l0 l1 l2 l4 l5 l6 l7 l8 : Option PV} {st : List PV} {M : Mem} {Q : Option PV → Mem → Prop} : WP d 214 58 [l0, l1, l2, some (vi x), l4, l5, l6, l7, l8] (st) M Q = WP d 214 59 [l0, l1, l2, some (vi x), l4, l5, l6, l7, l8] (vi x :: st) M Q := w1 mC_214 d214_58 rfl rfl
theorem d214_59 : decode cX12_fits 59 = .ok (.ifCond .ne 7, 3) := by decide +kernel
theorem k214_59 {d : Nat} {l0 l1 l2 l3 l4 l5 l6 l7 l8 : Option PV} {st : List PV} {M : Mem} {Q : Option PV → Mem → Prop} {x : Int32} : WP d 214 59 [l0, l1, l2, l3, l4, l5, l6, l7, l8] (vi x :: st) M Q = (if x = 0 then WP d 214 62 [l0, l1, l2, l3, l4, l5, l6, l7, l8] (st) M Q else WP d 214 66 [l0, l1, l2, l3, l4, l5, l6, l7, l8] (st) M Q) := w_if_ne mC_214 d214_59 (by decide)
theorem d214_62 : decode cX12_fits 62 = .ok (.iconst 0, 1) := by decide +kernel
theorem k214_62 {d : Nat} {l0 l1 l2 l3 l4 l5 l6 l7 l8 : Option PV} {st : List PV} {M : Mem} {Q : Option PV → Mem → Prop} : WP d 214 62 [l0, l1, l2, l3, l4, l5, l6, l7, l8] (st) M Q = WP d 214 63 [l0, l1, l2, l3, l4, l5, l6, l7, l8] (vi 0 :: st) M Q := w_iconst mC_214 d214_62 (by decide)
theorem d214_63 : decode cX12_fits 63 = .ok (.goto 4, 3) := by decide +kernel
theorem k214_63 {d : Nat} {l0 l1 l2 l3 l4 l5 l6 l7 l8 : Option PV} {st : List PV} {M : Mem} {Q : Option PV → Mem → Prop} : WP d 214 63 [l0, l1, l2, l3, l4, l5, l6, l7, l8] (st) M Q = WP d 214 67 [l0, l1, l2, l3, l4, l5, l6, l7, l8] (st) M Q := w_goto mC_214 d214_63 (by decide)
theorem d214_66 : decode cX12_fits 66 = .ok (.iconst (-1), 1) := by decide +kernel
theorem k214_66 {d : Nat} {l0 l1 l2 l3 l4 l5 l6 l7 l8 : Option PV} {st : List PV} {M : Mem} {Q : Option PV → Mem → Prop} : WP d 214 66 [l0, l1, l2, l3, l4, l5, l6, l7, l8] (st) M Q = WP d 214 67 [l0, l1, l2, l3, l4, l5, l6, l7, l8] (vi (-1) :: st) M Q := w_iconst mC_214 d214_66 (by decide)
theorem d214_67 : decode cX12_fits 67 = .ok (.istore 8, 2) := by decide +kernel
theorem k214_67 {d : Nat} {l0 l1 l2 l3 l4 l5 l6 l7 l8 : Option PV} {st : List PV} {M : Mem} {Q : Option PV → Mem → Prop} {x : Int32} : WP d 214 67 [l0, l1, l2, l3, l4, l5, l6, l7, l8] (vi x :: st) M Q = WP d 214 69 [l0, l1, l2, l3, l4, l5, l6, l7, some (vi x)] (st) M Q := w1 mC_214 d214_67 rfl rfl
theorem d214_69 : decode cX12_fits 69 = .ok (.iload 8, 2) := by decide +kernel
theorem k214_69 {d : Nat} {x : Int32} {l0 l1 l2 l3 l4 l5 l6 l7 : Option PV} {st : List PV} {M : Mem} {Q : Option PV → Mem → Prop} : WP d 214 69 [l0, l1, l2, l3, l4, l5, l6, l7, some (vi x)] (st) M Q = WP d 214 71 [l0, l1, l2, l3, l4, l5, l6, l7, some (vi x)] (vi x :: st) M Q := w1 mC_214 d214_69 rfl rfl
theorem d214_71 : decode cX12_fits 71 = .ok (.iload_n 3, 1) := by decide +kernel
theorem k214_71 {d : Nat} {x : Int32} {l0 l1 l2 l4 l5 l6 l7 l8 : Option PV} {st : List PV} {M : Mem} {Q : Option PV → Mem → Prop} : WP d 214 71 [l0, l1, l2, some (vi x), l4, l5, l6, l7, l8] (st) M Q = WP d 214 72 [l0, l1, l2, some (vi x), l4, l5, l6, l7, l8] (vi x :: st) M Q := w1 mC_214 d214_71 rfl rfl
theorem d214_72 : decode cX12_fits 72 = .ok (.ifCond .ne 8, 3) := by decide +kernel
theorem k214_72 {d : Nat} {l0 l1 l2 l3 l4 l5 l6 l7 l8 : Option PV} {st : List PV} {M : Mem} {Q : Option PV → Mem → Prop} {x : Int32} : WP d 214 72 [l0, l1, l2, l3, l4, l5, l6, l7, l8] (vi x :: st) M Q = (if x = 0 then WP d 214 75 [l0, l1, l2, l3, l4, l5, l6, l7, l8] (st) M Q else WP d 214 80 [l0, l1, l2, l3, l4, l5, l6, l7, l8] (st) M Q) := w_if_ne mC_214 d214_72 (by decide)
theorem d214_75 : decode cX12_fits 75 = .ok (.bipush 10, 2) := by decide +kernel
theorem k214_75 {d : Nat} {l0 l1 l2 l3 l4 l5 l6 l7 l8 : Option PV} {st : List PV} {M : Mem} {Q : Option PV → Mem → Prop} : WP d 214 75 [l0, l1, l2, l3, l4, l5, l6, l7, l8] (st) M Q = WP d 214 77 [l0, l1, l2, l3, l4, l5, l6, l7, l8] (vi 10 :: st) M Q := w_bipush mC_214 d214_75 (by decide)
theorem d214_77 : decode cX12_fits 77 = .ok (.goto 7, 3) := by decide +kernel
theorem k214_77 {d : Nat} {l0 l1 l2 l3 l4 l5 l6 l7 l8 : Option PV} {st : List PV} {M : Mem} {Q : Option PV → Mem → Prop} : WP d 214 77 [l0, l1, l2, l3, l4, l5, l6, l7, l8] (st) M Q = WP d 214 84 [l0, l1, l2, l3, l4, l5, l6, l7, l8] (st) M Q := w_goto mC_214 d214_77 (by decide)
theorem d214_80 : decode cX12_fits 80 = .ok (.aload_n 0, 1) := by decide +kernel
theorem k214_80 {d x : Nat} {l1 l2 l3 l4 l5 l6 l7 l8 : Option PV} {st : List PV} {M : Mem} {Q : Option PV → Mem → Prop} : WP d 214 80 [some (vr x), l1, l2, l3, l4, l5, l6, l7, l8] (st) M Q = WP d 214 81 [some (vr x), l1, l2, l3, l4, l5, l6, l7, l8] (vr x :: st) M Q := w1 mC_214 d214_80 rfl rfl
theorem d214_81 : decode cX12_fits 81 = .ok (.getfield 100, 3) := by decide +kernel
theorem k214_81 {d : Nat} {l0 l1 l2 l3 l4 l5 l6 l7 l8 : Option PV} {st : List PV} {M : Mem} {Q : Option PV → Mem → Prop} {r : Nat} (hk : mK M r = 12) : WP d 214 81 [l0, l1, l2, l3, l4, l5, l6, l7, l8] (vr r :: st) M Q = WP d 214 84 [l0, l1, l2, l3, l4, l5, l6, l7, l8] (vi (mI M r 0) :: st) M Q := w_get mC_214 d214_81 fE_12_100 rfl (by rw [hk]; rfl)
theorem d214_84 : decode cX12_fits 84 = .ok (.if_icmp .ge 49, 3) := by decide +kernel
theorem k214_84 {d : Nat} {l0 l1 l2 l3 l4 l5 l6 l7 l8 : Option PV} {st : List PV} {M : Mem} {Q : Option PV → Mem → Prop} {x y : Int32} : WP d 214 84 [l0, l1, l2, l3, l4, l5, l6, l7, l8] (vi y :: vi x :: st) M Q = (if y ≤ x then WP d 214 133 [l0, l1, l2, l3, l4, l5, l6, l7, l8] (st) M Q else WP d 214 87 [l0, l1, l2, l3, l4, l5, l6, l7, l8] (st) M Q) := w_ic_ge mC_214 d214_84 (by decide)
theorem d214_87 : decode cX12_fits 87 = .ok (.aload_n 0, 1) := by decide +kernel
theorem k214_87 {d x : Nat} {l1 l2 l3 l4 l5 l6 l7 l8 : Option PV} {st : List PV} {M : Mem} {Q : Option PV → Mem → Prop} : WP d 214 87 [some (vr x), l1, l2, l3, l4, l5, l6, l7, l8] (st) M Q = WP d 214 88 [some (vr x), l1, l2, l3, l4, l5, l6, l7, l8] (vr x :: st) M Q := w1 mC_214 d214_87 rfl rfl
theorem d214_88 : decode cX12_fits 88 = .ok (.iload_n 2, 1) := by decide +kernel
theorem k214_88 {d : Nat} {x : Int32} {l0 l1 l3 l4 l5 l6 l7 l8 : Option PV} {st : List PV} {M : Mem} {Q : Option PV → Mem → Prop} : WP d 214 88 [l0, l1, some (vi x), l3, l4, l5, l6, l7, l8] (st) M Q = WP d 214 89 [l0, l1, some (vi x), l3, l4, l5, l6, l7, l8] (vi x :: st) M Q := w1 mC_214 d214_88 rfl rfl
theorem d214_89 : decode cX12_fits 89 = .ok (.iload 5, 2) := by decide +kernel
theorem k214_89 {d : Nat} {x : Int32} {l0 l1 l2 l3 l4 l6 l7 l8 : Option PV} {st : List PV} {M : Mem} {Q : Option PV → Mem → Prop} : WP d 214 89 [l0, l1, l2, l3, l4, some (vi x), l6, l7, l8] (st) M Q = WP d 214 91 [l0, l1, l2, l3, l4, some (vi x), l6, l7, l8] (vi x :: st) M Q := w1 mC_214 d214_89 rfl rfl
theorem d214_91 : decode cX12_fits 91 = .ok (.iload 8, 2) := by decide +kernel
theorem k214_91 {d : Nat} {x : Int32} {l0 l1 l2 l3 l4 l5 l6 l7 : Option PV} {st : List PV} {M : Mem} {Q : Option PV → Mem → Prop} : WP d 214 91 [l0, l1, l2, l3, l4, l5, l6, l7, some (vi x)] (st) M Q = WP d 214 93 [l0, l1, l2, l3, l4, l5, l6, l7, some (vi x)] (vi x :: st) M Q := w1 mC_214 d214_91 rfl rfl
theorem d214_93 : decode cX12_fits 93 = .ok (.invokevirtual 148, 3) := by decide +kernel
theorem k214_93 {d : Nat} {l0 l1 l2 l3 l4 l5 l6 l7 l8 : Option PV} {st : List PV} {M : Mem} {Q : Option PV → Mem → Prop} {a0 a1 a2 : Int32} {r : Nat} (hl : szL st ≤ 8) (hk : mK M r = 12) : WP (d + 1) 214 93 [l0, l1, l2, l3, l4, l5, l6, l7, l8] (vi a2 :: vi a1 :: vi a0 :: vr r :: st) M Q = WP d 159 0 [some (vr r), some (vi a0), some (vi a1), some (vi a2)] [] M (fun v M' => WP (d + 1) 214 96 [l0, l1, l2, l3, l4, l5, l6, l7, l8] (psh v st) M' Q) := w_callV mC_214 d214_93 (ci := 12) rfl rfl rfl (Nat.le_of_ble_eq_true rfl) (by decide) rfl hl hk
theorem d214_96 : decode cX12_fits 96 = .ok (.aload_n 0, 1) := by decide +kernel
theorem k214_96 {d x : Nat} {l1 l2 l3 l4 l5 l6 l7 l8 : Option PV} {st : List PV} {M : Mem} {Q : Option PV → Mem → Prop} : WP d 214 96 [some (vr x), l1, l2, l3, l4, l5, l6, l7, l8] (st) M Q = WP d 214 97 [some (vr x), l1, l2, l3, l4, l5, l6, l7, l8] (vr x :: st) M Q := w1 mC_214 d214_96 rfl rfl
theorem d214_97 : decode cX12_fits 97 = .ok (.iload_n 1, 1) := by decide +kernel
theorem k214_97 {d : Nat} {x : Int32} {l0 l2 l3 l4 l5 l6 l7 l8 : Option PV} {st : List PV} {M : Mem} {Q : Option PV → Mem → Prop} : WP d 214 97 [l0, some (vi x), l2, l3, l4, l5, l6, l7, l8] (st) M Q = WP d 214 98 [l0, some (vi x), l2, l3, l4, l5, l6, l7, l8] (vi x :: st) M Q := w1 mC_214 d214_97 rfl rfl
theorem d214_98 : decode cX12_fits 98 = .ok (.iload_n 2, 1) := by decide +kernel
theorem k214_98 {d : Nat} {x : Int32} {l0 l1 l3 l4 l5 l6 l7 l8 : Option PV} {st : List PV} {M : Mem} {Q : Option PV → Mem → Prop} : WP d 214 98 [l0, l1, some (vi x), l3, l4, l5, l6, l7, l8] (st) M Q = WP d 214 99 [l0, l1, some (vi x), l3, l4, l5, l6, l7, l8] (vi x :: st) M Q := w1 mC_214 d214_98 rfl rfl
theorem d214_99 : decode cX12_fits 99 = .ok (.invokevirtual 319, 3) := by decide +kernel
theorem k214_99 {d : Nat} {l0 l1 l2 l3 l4 l5 l6 l7 l8 : Option PV} {st : List PV} {M : Mem} {Q : Option PV → Mem → Prop} {a0 a1 : Int32} {r : Nat} (hl : szL st ≤ 8) (hk : mK M r = 12) : WP (d + 1) 214 99 [l0, l1, l2, l3, l4, l5, l6, l7, l8] (vi a1 :: vi a0 :: vr r :: st) M Q = WP d 212 0 [some (vr r), some (vi a0), some (vi a1), none, none] [] M (fun v M' => WP (d + 1) 214 102 [l0, l1, l2, l3, l4, l5, l6, l7, l8] (psh v st) M' Q) := w_callV mC_214 d214_99 (ci := 12) rfl rfl rfl (Nat.le_of_ble_eq_true rfl) (by decide) rfl hl hk
theorem d214_102 : decode cX12_fits 102 = .ok (.bipush (-2), 2) := by decide +kernel
theorem k214_102 {d : Nat} {l0 l1 l2 l3 l4 l5 l6 l7 l8 : Option PV} {st : List PV} {M : Mem} {Q : Option PV → Mem → Prop} : WP d 214 102 [l0, l1, l2, l3, l4, l5, l6, l7, l8] (st) M Q = WP d 214 104 [l0, l1, l2, l3, l4, l5, l6, l7, l8] (vi (-2) :: st) M Q := w_bipush mC_214 d214_102 (by decide)
theorem d214_104 : decode cX12_fits 104 = .ok (.if_icmp .ne 23, 3) := by decide +kernel
theorem k214_104 {d : Nat} {l0 l1 l2 l3 l4 l5 l6 l7 l8 : Option PV} {st : List PV} {M : Mem} {Q : Option PV → Mem → Prop} {x y : Int32} : WP d 214 104 [l0, l1, l2, l3, l4, l5, l6, l7, l8] (vi y :: vi x :: st) M Q = (if x = y then WP d 214 107 [l0, l1, l2, l3, l4, l5, l6, l7, l8] (st) M Q else WP d 214 127 [l0, l1, l2, l3, l4, l5, l6, l7, l8] (st) M Q) := w_ic_ne mC_214 d214_104 (by decide)
theorem d214_107 : decode cX12_fits 107 = .ok (.iload 7, 2) := by decide +kernel
theorem k214_107 {d : Nat} {x : Int32} {l0 l1 l2 l3 l4 l5 l6 l8 : Option PV} {st : List PV} {M : Mem} {Q : Option PV → Mem → Prop} : WP d 214 107 [l0, l1, l2, l3, l4, l5, l6, some (vi x), l8] (st) M Q = WP d 214 109 [l0, l1, l2, l3, l4, l5, l6, some (vi x), l8] (vi x :: st) M Q := w1 mC_214 d214_107 rfl rfl
theorem d214_109 : decode cX12_fits 109 = .ok (.iconst 1, 1) := by decide +kernel
theorem k214_109 {d : Nat} {l0 l1 l2 l3 l4 l5 l6 l7 l8 : Option PV} {st : List PV} {M : Mem} {Q : Option PV → Mem → Prop} : WP d 214 109 [l0, l1, l2, l3, l4, l5, l6, l7, l8] (st) M Q = WP d 214 110 [l0, l1, l2, l3, l4, l5, l6, l7, l8] (vi 1 :: st) M Q := w_iconst mC_214 d214_109 (by decide)
theorem d214_110 : decode cX12_fits 110 = .ok (.iload 8, 2) := by decide +kernel
theorem k214_110 {d : Nat} {x : Int32} {l0 l1 l2 l3 l4 l5 l6 l7 : Option PV} {st : List PV} {M : Mem} {Q : Option PV → Mem → Prop} : WP d 214 110 [l0, l1, l2, l3, l4, l5, l6, l7, some (vi x)] (st) M Q = WP d 214 112 [l0, l1, l2, l3, l4, l5, l6, l7, some (vi x)] (vi x :: st) M Q := w1 mC_214 d214_110 rfl rfl
theorem d214_112 : decode cX12_fits 112 = .ok (.iconst (-1), 1) := by decide +kernel
theorem k214_112 {d : Nat} {l0 l1 l2 l3 l4 l5 l6 l7 l8 : Option PV} {st : List PV} {M : Mem} {Q : Option PV → Mem → Prop} : WP d 214 112 [l0, l1, l2, l3, l4, l5, l6, l7, l8] (st) M Q = WP d 214 113 [l0, l1, l2, l3, l4, l5, l6, l7, l8] (vi (-1) :: st) M Q := w_iconst mC_214 d214_112 (by decide)
theorem d214_113 : decode cX12_fits 113 = .ok (.if_icmp .ne 8, 3) := by decide +kernel
theorem k214_113 {d : Nat} {l0 l1 l2 l3 l4 l5 l6 l7 l8 : Option PV} {st : List PV} {M : Mem} {Q : Option PV → Mem → Prop} {x y : Int32} : WP d 214 113 [l0, l1, l2, l3, l4, l5, l6, l7, l8] (vi y :: vi x :: st) M Q = (if x = y then WP d 214 116 [l0, l1, l2, l3, l4, l5, l6, l7, l8] (st) M Q else WP d 214 121 [l0, l1, l2, l3, l4, l5, l6, l7, l8] (st) M Q) := w_ic_ne mC_214 d214_113 (by decide)
theorem d214_116 : decode cX12_fits 116 = .ok (.bipush 8, 2) := by decide +kernel
theorem k214_116 {d : Nat} {l0 l1 l2 l3 l4 l5 l6 l7 l8 : Option PV} {st : List PV} {M : Mem} {Q : Option PV → Mem → Prop} : WP d 214 116 [l0, l1, l2, l3, l4, l5, l6, l7, l8] (st) M Q = WP d 214 118 [l0, l1, l2, l3, l4, l5, l6, l7, l8] (vi 8 :: st) M Q := w_bipush mC_214 d214_116 (by decide)
theorem d214_118 : decode cX12_fits 118 = .ok (.goto 5, 3) := by decide +kernel
theorem k214_118 {d : Nat} {l0 l1 l2 l3 l4 l5 l6 l7 l8 : Option PV} {st : List PV} {M : Mem} {Q : Option PV → Mem → Prop} : WP d 214 118 [l0, l1, l2, l3, l4, l5, l6, l7, l8] (st) M Q = WP d 214 123 [l0, l1, l2, l3, l4, l5, l6, l7, l8] (st) M Q := w_goto mC_214 d214_118 (by decide)
theorem d214_121 : decode cX12_fits 121 = .ok (.iload 8, 2) := by decide +kernel
theorem k214_121 {d : Nat} {x : Int32} {l0 l1 l2 l3 l4 l5 l6 l7 : Option PV} {st : List PV} {M : Mem} {Q : Option PV → Mem → Prop} : WP d 214 121 [l0, l1, l2, l3, l4, l5, l6, l7, some (vi x)] (st) M Q = WP d 214 123 [l0, l1, l2, l3, l4, l5, l6, l7, some (vi x)] (vi x :: st) M Q := w1 mC_214 d214_121 rfl rfl
theorem d214_123 : decode cX12_fits 123 = .ok (.ishl, 1) := by decide +kernel
theorem k214_123 {d : Nat} {l0 l1 l2 l3 l4 l5 l6 l7 l8 : Option PV} {st : List PV} {M : Mem} {Q : Option PV → Mem → Prop} {x y : Int32} : WP d 214 123 [l0, l1, l2, l3, l4, l5, l6, l7, l8] (vi y :: vi x :: st) M Q = WP d 214 124 [l0, l1, l2, l3, l4, l5, l6, l7, l8] (vi (x <<< (y &&& 31)) :: st) M Q := w1 mC_214 d214_123 rfl rfl
theorem d214_124 : decode cX12_fits 124 = .ok (.ior, 1) := by decide +kernel
theorem k214_124 {d : Nat} {l0 l1 l2 l3 l4 l5 l6 l7 l8 : Option PV} {st : List PV} {M : Mem} {Q : Option PV → Mem → Prop} {x y : Int32} : WP d 214 124 [l0, l1, l2, l3, l4, l5, l6, l7, l8] (vi y :: vi x :: st) M Q = WP d 214 125 [l0, l1, l2, l3, l4, l5, l6, l7, l8] (vi (x ||| y) :: st) M Q := w1 mC_214 d214_124 rfl rfl
theorem d214_125 : decode cX12_fits 125 = .ok (.istore 7, 2) := by decide +kernel
theorem k214_125 {d : Nat} {l0 l1 l2 l3 l4 l5 l6 l7 l8 : Option PV} {st : List PV} {M : Mem} {Q : Option PV → Mem → Prop} {x : Int32} : WP d 214 125 [l0, l1, l2, l3, l4, l5, l6, l7, l8] (vi x :: st) M Q = WP d 214 127 [l0, l1, l2, l3, l4, l5, l6, some (vi x), l8] (st) M Q := w1 mC_214 d214_125 rfl rfl
theorem d214_127 : decode cX12_fits 127 = .ok (.iinc 8 1, 3) := by decide +kernel
theorem k214_127 {d : Nat} {x : Int32} {l0 l1 l2 l3 l4 l5 l6 l7 : Option PV} {st : List PV} {M : Mem} {Q : Option PV → Mem → Prop} : WP d 214 127 [l0, l1, l2, l3, l4, l5, l6, l7, some (vi x)] (st) M Q = WP d 214 130 [l0, l1, l2, l3, l4, l5, l6, l7, some (vi (x + 1))] (st) M Q := w_iinc mC_214 d214_127 rfl (by decide) rfl
theorem d214_130 : decode cX12_fits 130 = .ok (.goto (-61), 3) := by decide +kernel
theorem k214_130 {d : Nat} {l0 l1 l2 l3 l4 l5 l6 l7 l8 : Option PV} {st : List PV} {M : Mem} {Q : Option PV → Mem → Prop} : WP d 214 130 [l0, l1, l2, l3, l4, l5, l6, l7, l8] (st) M Q = WP d 214 69 [l0, l1, l2, l3, l4, l5, l6, l7, l8] (st) M Q := w_goto mC_214 d214_130 (by decide)
theorem d214_133 : decode cX12_fits 133 = .ok (.aload_n 0, 1) := by decide +kernel
theorem k214_133 {d x : Nat} {l1 l2 l3 l4 l5 l6 l7 l8 : Option PV} {st : List PV} {M : Mem} {Q : Option PV → Mem → Prop} : WP d 214 133 [some (vr x), l1, l2, l3, l4, l5, l6, l7, l8] (st) M Q = WP d 214 134 [some (vr x), l1, l2, l3, l4, l5, l6, l7, l8] (vr x :: st) M Q := w1 mC_214 d214_133 rfl rfl
theorem d214_134 : decode cX12_fits 134 = .ok (.iload_n 2, 1) := by decide +kernel
theorem k214_134 {d : Nat} {x : Int32} {l0 l1 l3 l4 l5 l6 l7 l8 : Option PV} {st : List PV} {M : Mem} {Q : Option PV → Mem → Prop} : WP d 214 134 [l0, l1, some (vi x), l3, l4, l5, l6, l7, l8] (st) M Q = WP d 214 135 [l0, l1, some (vi x), l3, l4, l5, l6, l7, l8] (vi x :: st) M Q := w1 mC_214 d214_134 rfl rfl
theorem d214_135 : decode cX12_fits 135 = .ok (.iload 5, 2) := by decide +kernel
theorem k214_135 {d : Nat} {x : Int32} {l0 l1 l2 l3 l4 l6 l7 l8 : Option PV} {st : List PV} {M : Mem} {Q : Option PV → Mem → Prop} : WP d 214 135 [l0, l1, l2, l3, l4, some (vi x), l6, l7, l8] (st) M Q = WP d 214 137 [l0, l1, l2, l3, l4, some (vi x), l6, l7, l8] (vi x :: st) M Q := w1 mC_214 d214_135 rfl rfl
theorem d214_137 : decode cX12_fits 137 = .ok (.iload 6, 2) := by decide +kernel
theorem k214_137 {d : Nat} {x : Int32} {l0 l1 l2 l3 l4 l5 l7 l8 : Option PV} {st : List PV} {M : Mem} {Q : Option PV → Mem → Prop} : WP d 214 137 [l0, l1, l2, l3, l4, l5, some (vi x), l7, l8] (st) M Q = WP d 214 139 [l0, l1, l2, l3, l4, l5, some (vi x), l7, l8] (vi x :: st) M Q := w1 mC_214 d214_137 rfl rfl
theorem d214_139 : decode cX12_fits 139 = .ok (.invokevirtual 148, 3) := by decide +kernel
theorem k214_139 {d : Nat} {l0 l1 l2 l3 l4 l5 l6 l7 l8 : Option PV} {st : List PV} {M : Mem} {Q : Option PV → Mem → Prop} {a0 a1 a2 : Int32} {r : Nat} (hl : szL st ≤ 8) (hk : mK M r = 12) : WP (d + 1) 214 139 [l0, l1, l2, l3, l4, l5, l6, l7, l8] (vi a2 :: vi a1 :: vi a0 :: vr r :: st) M Q = WP d 159 0 [some (vr r), some (vi a0), some (vi a1), some (vi a2)] [] M (fun v M' => WP (d + 1) 214 142 [l0, l1, l2, l3, l4, l5, l6, l7, l8] (psh v st) M' Q) := w_callV mC_214 d214_139 (ci := 12) rfl rfl rfl (Nat.le_of_ble_eq_true rfl) (by decide) rfl hl hk
theorem d214_142 : decode cX12_fits 142 = .ok (.iload 7, 2) := by decide +kernel
theorem k214_142 {d : Nat} {x : Int32} {l0 l1 l2 l3 l4 l5 l6 l8 : Option PV} {st : List PV} {M : Mem} {Q : Option PV → Mem → Prop} : WP d 214 142 [l0, l1, l2, l3, l4, l5, l6, some (vi x), l8] (st) M Q = WP d 214 144 [l0, l1, l2, l3, l4, l5, l6, some (vi x), l8] (vi x :: st) M Q := w1 mC_214 d214_142 rfl rfl
theorem d214_144 : decode cX12_fits 144 = .ok (.ireturn, 1) := by decide +kernel
theorem k214_144 {d : Nat} {l0 l1 l2 l3 l4 l5 l6 l7 l8 : Option PV} {M : Mem} {Q : Option PV → Mem → Prop} {x : Int32} : WP d 214 144 [l0, l1, l2, l3, l4, l5, l6, l7, l8] ([vi x]) M Q = Q (some (vi x)) M := w_iret mC_214 d214_144 rfl
theorem d215_0 : decode cX12_alike 0 = .ok (.aload_n 0, 1) := by decide +kernel
theorem k215_0 {d x : Nat} {l1 l2 l3 l4 l5 : Option PV} {st : List PV} {M : Mem} {Q : Option PV → Mem → Prop} : WP d 215 0 [some (vr x), l1, l2, l3, l4, l5] (st) M Q = WP d 215 1 [some (vr x), l1, l2, l3, l4, l5] (vr x :: st) M Q := w1 mC_215 d215_0 rfl rfl
theorem d215_1 : decode cX12_alike 1 = .ok (.aload_n 0, 1) := by decide +kernel
theorem k215_1 {d x : Nat} {l1 l2 l3 l4 l5 : Option PV} {st : List PV} {M : Mem} {Q : Option PV → Mem → Prop} : WP d 215 1 [some (vr x), l1, l2, l3, l4, l5] (st) M Q = WP d 215 2 [some (vr x), l1, l2, l3, l4, l5] (vr x :: st) M Q := w1 mC_215 d215_1 rfl rfl
theorem d215_2 : decode cX12_alike 2 = .ok (.getfield 79, 3) := by decide +kernel
theorem k215_2 {d : Nat} {l0 l1 l2 l3 l4 l5 : Option PV} {st : List PV} {M : Mem} {Q : Option PV → Mem → Prop} {r : Nat} (hk : mK M r = 12) : WP d 215 2 [l0, l1, l2, l3, l4, l5] (vr r :: st) M Q = WP d 215 5 [l0, l1, l2, l3, l4, l5] (vr (mR M r 40) :: st) M Q := w_getr mC_215 d215_2 fE_12_79 rfl (by rw [hk]; rfl)
theorem d215_5 : decode cX12_alike 5 = .ok (.invokevirtual 272, 3) := by decide +kernel
theorem k215_5 {d : Nat} {l0 l1 l2 l3 l4 l5 : Option PV} {st : List PV} {M : Mem} {Q : Option PV → Mem → Prop} {a0 : Nat} {r : Nat} (hl : szL st ≤ 8) (hk : mK M r = 12) : WP (d + 1) 215 5 [l0, l1, l2, l3, l4, l5] (vr a0 :: vr r :: st) M Q = WP d 190 0 [some (vr r), some (vr a0), none] [] M (fun v M' => WP (d + 1) 215 8 [l0, l1, l2, l3, l4, l5] (psh v st) M' Q) := w_callV mC_215 d215_5 (ci := 12) rfl rfl rfl (Nat.le_of_ble_eq_true rfl) (by decide) rfl hl hk
theorem d215_8 : decode cX12_alike 8 = .ok (.iconst 0, 1) := by decide +kernel
theorem k215_8 {d : Nat} {l0 l1 l2 l3 l4 l5 : Option PV} {st : List PV} {M : Mem} {Q : Option PV → Mem → Prop} : WP d 215 8 [l0, l1, l2, l3, l4, l5] (st) M Q = WP d 215 9 [l0, l1, l2, l3, l4, l5] (vi 0 :: st) M Q := w_iconst mC_215 d215_8 (by decide)
theorem d215_9 : decode cX12_alike 9 = .ok (.istore_n 1, 1) := by decide +kernel
theorem k215_9 {d : Nat} {l0 l1 l2 l3 l4 l5 : Option PV} {st : List PV} {M : Mem} {Q : Option PV → Mem → Prop} {x : Int32} : WP d 215 9 [l0, l1, l2, l3, l4, l5] (vi x :: st) M Q = WP d 215 10 [l0, some (vi x), l2, l3, l4, l5] (st) M Q := w1 mC_215 d215_9 rfl rfl
theorem d215_10 : decode cX12_alike 10 = .ok (.iload_n 1, 1) := by decide +kernel
theorem k215_10 {d : Nat} {x : Int32} {l0 l2 l3 l4 l5 : Option PV} {st : List PV} {M : Mem} {Q : Option PV → Mem → Prop} : WP d 215 10 [l0, some (vi x), l2, l3, l4, l5] (st) M Q = WP d 215 11 [l0, some (vi x), l2, l3, l4, l5] (vi x :: st) M Q := w1 mC_215 d215_10 rfl rfl
theorem d215_11 : decode cX12_alike 11 = .ok (.bipush 12, 2) := by decide +kernel
theorem k215_11 {d : Nat} {l0 l1 l2 l3 l4 l5 : Option PV} {st : List PV} {M : Mem} {Q : Option PV → Mem → Prop} : WP d 215 11 [l0, l1, l2, l3, l4, l5] (st) M Q = WP d 215 13 [l0, l1, l2, l3, l4, l5] (vi 12 :: st) M Q := w_bipush mC_215 d215_11 (by decide)
theorem d215_13 : decode cX12_alike 13 = .ok (.if_icmp .gt 49, 3) := by decide +kernel
theorem k215_13 {d : Nat} {l0 l1 l2 l3 l4 l5 : Option PV} {st : List PV} {M : Mem} {Q : Option PV → Mem → Prop} {x y : Int32} : WP d 215 13 [l0, l1, l2, l3, l4, l5] (vi y :: vi x :: st) M Q = (if y < x then WP d 215 62 [l0, l1, l2, l3, l4, l5] (st) M Q else WP d 215 16 [l0, l1, l2, l3, l4, l5] (st) M Q) := w_ic_gt mC_215 d215_13 (by decide)
theorem d215_16 : decode cX12_alike 16 = .ok (.iload_n 1, 1) := by decide +kernel
theorem k215_16 {d : Nat} {x : Int32} {l0 l2 l3 l4 l5 : Option PV} {st : List PV} {M : Mem} {Q : Option PV → Mem → Prop} : WP d 215 16 [l0, some (vi x), l2, l3, l4, l5] (st) M Q = WP d 215 17 [l0, some (vi x), l2, l3, l4, l5] (vi x :: st) M Q := w1 mC_215 d215_16 rfl rfl
theorem d215_17 : decode cX12_alike 17 = .ok (.ifCond .le 7, 3) := by decide +kernel
theorem k215_17 {d : Nat} {l0 l1 l2 l3 l4 l5 : Option PV} {st : List PV} {M : Mem} {Q : Option PV → Mem → Prop} {x : Int32} : WP d 215 17 [l0, l1, l2, l3, l4, l5] (vi x :: st) M Q = (if x ≤ 0 then WP d 215 24 [l0, l1, l2, l3, l4, l5] (st) M Q else WP d 215 20 [l0, l1, l2, l3, l4, l5] (st) M Q) := w_if_le mC_215 d215_17 (by decide)
theorem d215_20 : decode cX12_alike 20 = .ok (.aload_n 0, 1) := by decide +kernel
theorem k215_20 {d x : Nat} {l1 l2 l3 l4 l5 : Option PV} {st : List PV} {M : Mem} {Q : Option PV → Mem → Prop} : WP d 215 20 [some (vr x), l1, l2, l3, l4, l5] (st) M Q = WP d 215 21 [some (vr x), l1, l2, l3, l4, l5] (vr x :: st) M Q := w1 mC_215 d215_20 rfl rfl
theorem d215_21 : decode cX12_alike 21 = .ok (.invokevirtual 265, 3) := by decide +kernel
theorem k215_21 {d : Nat} {l0 l1 l2 l3 l4 l5 : Option PV} {st : List PV} {M : Mem} {Q : Option PV → Mem → Prop} {r : Nat} (hl : szL st ≤ 8) (hk : mK M r = 12) : WP (d + 1) 215 21 [l0, l1, l2, l3, l4, l5] (vr r :: st) M Q = WP d 188 0 [some (vr r), none] [] M (fun v M' => WP (d + 1) 215 24 [l0, l1, l2, l3, l4, l5] (psh v st) M' Q) := w_callV mC_215 d215_21 (ci := 12) rfl rfl rfl (Nat.le_of_ble_eq_true rfl) (by decide) rfl hl hk
theorem d215_24 : decode cX12_alike 24 = .ok (.iconst 0, 1) := by decide +kernel
theorem k215_24 {d : Nat} {l0 l1 l2 l3 l4 l5 : Option PV} {st : List PV} {M : Mem} {Q : Option PV → Mem → Prop} : WP d 215 24 [l0, l1, l2, l3, l4, l5] (st) M Q = WP d 215 25 [l0, l1, l2, l3, l4, l5] (vi 0 :: st) M Q := w_iconst mC_215 d215_24 (by decide)
theorem d215_25 : decode cX12_alike 25 = .ok (.istore_n 2, 1) := by decide +kernel
theorem k215_25 {d : Nat} {l0 l1 l2 l3 l4 l5 : Option PV} {st : List PV} {M : Mem} {Q : Option PV → Mem → Prop} {x : Int32} : WP d 215 25 [l0, l1, l2, l3, l4, l5] (vi x :: st) M Q = WP d 215 26 [l0, l1, some (vi x), l3, l4, l5] (st) M Q := w1 mC_215 d215_25 rfl rfl
theorem d215_26 : decode cX12_alike 26 = .ok (.iload_n 2, 1) := by decide +kernel
theorem k215_26 {d : Nat} {x : Int32} {l0 l1 l3 l4 l5 : Option PV} {st : List PV} {M : Mem} {Q : Option PV → Mem → Prop} : WP d 215 26 [l0, l1, some (vi x), l3, l4, l5] (st) M Q = WP d 215 27 [l0, l1, some (vi x), l3, l4, l5] (vi x :: st) M Q := w1 mC_215 d215_26 rfl rfl
theorem d215_27 : decode cX12_alike 27 = .ok (.aload_n 0, 1) := by decide +kernel
theorem k215_27 {d x : Nat} {l1 l2 l3 l4 l5 : Option PV} {st : List PV} {M : Mem} {Q : Option PV → Mem → Prop} : WP d 215 27 [some (vr x), l1, l2, l3, l4, l5] (st) M Q = WP d 215 28 [some (vr x), l1, l2, l3, l4, l5] (vr x :: st) M Q := w1 mC_215 d215_27 rfl rfl
theorem d215_28 : decode cX12_alike 28 = .ok (.getfield 108, 3) := by decide +kernel
theorem k215_28 {d : Nat} {l0 l1 l2 l3 l4 l5 : Option PV} {st : List PV} {M : Mem} {Q : Option PV → Mem → Prop} {r : Nat} (hk : mK M r = 12) : WP d 215 28 [l0, l1, l2, l3, l4, l5] (vr r :: st) M Q = WP d 215 31 [l0, l1, l2, l3, l4, l5] (vi (mI M r 1) :: st) M Q := w_get mC_215 d215_28 fE_12_108 rfl (by rw [hk]; rfl)
theorem d215_31 : decode cX12_alike 31 = .ok (.if_icmp .ge 25, 3) := by decide +kernel
theorem k215_31 {d : Nat} {l0 l1 l2 l3 l4 l5 : Option PV} {st : List PV} {M : Mem} {Q : Option PV → Mem → Prop} {x y : Int32} : WP d 215 31 [l0, l1, l2, l3, l4, l5] (vi y :: vi x :: st) M Q = (if y ≤ x then WP d 215 56 [l0, l1, l2, l3, l4, l5] (st) M Q else WP d 215 34 [l0, l1, l2, l3, l4, l5] (st) M Q) := w_ic_ge mC_215 d215_31 (by decide)
theorem d215_34 : decode cX12_alike 34 = .ok (.aload_n 0, 1) := by decide +kernel
theorem k215_34 {d x : Nat} {l1 l2 l3 l4 l5 : Option PV} {st : List PV} {M : Mem} {Q : Option PV → Mem → Prop} : WP d 215 34 [some (vr x), l1, l2, l3, l4, l5] (st) M Q = WP d 215 35 [some (vr x), l1, l2, l3, l4, l5] (vr x :: st) M Q := w1 mC_215 d215_34 rfl rfl
theorem d215_35 : decode cX12_alike 35 = .ok (.getfield 97, 3) := by decide +kernel
theorem k215_35 {d : Nat} {l0 l1 l2 l3 l4 l5 : Option PV} {st : List PV} {M : Mem} {Q : Option PV → Mem → Prop} {r : Nat} (hk : mK M r = 12) : WP d 215 35 [l0, l1, l2, l3, l4, l5] (vr r :: st) M Q = WP d 215 38 [l0, l1, l2, l3, l4, l5] (vr (mR M r 47) :: st) M Q := w_getr mC_215 d215_35 fE_12_97 rfl (by rw [hk]; rfl)
theorem d215_38 : decode cX12_alike 38 = .ok (.bipush 13, 2) := by decide +kernel
theorem k215_38 {d : Nat} {l0 l1 l2 l3 l4 l5 : Option PV} {st : List PV} {M : Mem} {Q : Option PV → Mem → Prop} : WP d 215 38 [l0, l1, l2, l3, l4, l5] (st) M Q = WP d 215 40 [l0, l1, l2, l3, l4, l5] (vi 13 :: st) M Q := w_bipush mC_215 d215_38 (by decide)
theorem d215_40 : decode cX12_alike 40 = .ok (.iload_n 2, 1) := by decide +kernel
theorem k215_40 {d : Nat} {x : Int32} {l0 l1 l3 l4 l5 : Option PV} {st : List PV} {M : Mem} {Q : Option PV → Mem → Prop} : WP d 215 40 [l0, l1, some (vi x), l3, l4, l5] (st) M Q = WP d 215 41 [l0, l1, some (vi x), l3, l4, l5] (vi x :: st) M Q := w1 mC_215 d215_40 rfl rfl
theorem d215_41 : decode cX12_alike 41 = .ok (.imul, 1) := by decide +kernel
theorem k215_41 {d : Nat} {l0 l1 l2 l3 l4 l5 : Option PV} {st : List PV} {M : Mem} {Q : Option PV → Mem → Prop} {x y : Int32} : WP d 215 41 [l0, l1, l2, l3, l4, l5] (vi y :: vi x :: st) M Q = WP d 215 42 [l0, l1, l2, l3, l4, l5] (vi (x * y) :: st) M Q := w1 mC_215 d215_41 rfl rfl
theorem d215_42 : decode cX12_alike 42 = .ok (.iload_n 1, 1) := by decide +kernel
theorem k215_42 {d : Nat} {x : Int32} {l0 l2 l3 l4 l5 : Option PV} {st : List PV} {M : Mem} {Q : Option PV → Mem → Prop} : WP d 215 42 [l0, some (vi x), l2, l3, l4, l5] (st) M Q = WP d 215 43 [l0, some (vi x), l2, l3, l4, l5] (vi x :: st) M Q := w1 mC_215 d215_42 rfl rfl
theorem d215_43 : decode cX12_alike 43 = .ok (.iadd, 1) := by decide +kernel
theorem k215_43 {d : Nat} {l0 l1 l2 l3 l4 l5 : Option PV} {st : List PV} {M : Mem} {Q : Option PV → Mem → Prop} {x y : Int32} : WP d 215 43 [l0, l1, l2, l3, l4, l5] (vi y :: vi x :: st) M Q = WP d 215 44 [l0, l1, l2, l3, l4, l5] (vi (x + y) :: st) M Q := w1 mC_215 d215_43 rfl rfl
theorem d215_44 : decode cX12_alike 44 = .ok (.aload_n 0, 1) := by decide +kernel
theorem k215_44 {d x : Nat} {l1 l2 l3 l4 l5 : Option PV} {st : List PV} {M : Mem} {Q : Option PV → Mem → Prop} : WP d 215 44 [some (vr x), l1, l2, l3, l4, l5] (st) M Q = WP d 215 45 [some (vr x), l1, l2, l3, l4, l5] (vr x :: st) M Q := w1 mC_215 d215_44 rfl rfl
theorem d215_45 : decode cX12_alike 45 = .ok (.iload_n 2, 1) := by decide +kernel
theorem k215_45 {d : Nat} {x : Int32} {l0 l1 l3 l4 l5 : Option PV} {st : List PV} {M : Mem} {Q : Option PV → Mem → Prop} : WP d 215 45 [l0, l1, some (vi x), l3, l4, l5] (st) M Q = WP d 215 46 [l0, l1, some (vi x), l3, l4, l5] (vi x :: st) M Q := w1 mC_215 d215_45 rfl rfl
theorem d215_46 : decode cX12_alike 46 = .ok (.invokevirtual 228, 3) := by decide +kernel
theorem k215_46 {d : Nat} {l0 l1 l2 l3 l4 l5 : Option PV} {st : List PV} {M : Mem} {Q : Option PV → Mem → Prop} {a0 : Int32} {r : Nat} (hl : szL st ≤ 8) (hk : mK M r = 12) : WP (d + 1) 215 46 [l0, l1, l2, l3, l4, l5] (vi a0 :: vr r :: st) M Q = WP d 182 0 [some (vr r), some (vi a0)] [] M (fun v M' => WP (d + 1) 215 49 [l0, l1, l2, l3, l4, l5] (psh v st) M' Q) := w_callV mC_215 d215_46 (ci := 12) rfl rfl rfl (Nat.le_of_ble_eq_true rfl) (by decide) rfl hl hk
theorem d215_49 : decode cX12_alike 49 = .ok (.iastore, 1) := by decide +kernel
theorem k215_49 {d : Nat} {l0 l1 l2 l3 l4 l5 : Option PV} {st : List PV} {M : Mem} {Q : Option PV → Mem → Prop} {r : Nat} {j x : Int32} (hk : mK M r = 13) (hj : inb j (mN M r)) (h1 : r ≠ 1) : WP d 215 49 [l0, l1, l2, l3, l4, l5] (vi x :: vi j :: vr r :: st) M Q = WP d 215 50 [l0, l1, l2, l3, l4, l5] (st) (sI M r (ix j) x) Q := w_iast mC_215 d215_49 hk hj h1
theorem d215_50 : decode cX12_alike 50 = .ok (.iinc 2 1, 3) := by decide +kernel
theorem k215_50 {d : Nat} {x : Int32} {l0 l1 l3 l4 l5 : Option PV} {st : List PV} {M : Mem} {Q : Option PV → Mem → Prop} : WP d 215 50 [l0, l1, some (vi x), l3, l4, l5] (st) M Q = WP d 215 53 [l0, l1, some (vi (x + 1)), l3, l4, l5] (st) M Q := w_iinc mC_215 d215_50 rfl (by decide) rfl
theorem d215_53 : decode cX12_alike 53 = .ok (.goto (-27), 3) := by decide +kernel
theorem k215_53 {d : Nat} {l0 l1 l2 l3 l4 l5 : Option PV} {st : List PV} {M : Mem} {Q : Option PV → Mem → Prop} : WP d 215 53 [l0, l1, l2, l3, l4, l5] (st) M Q = WP d 215 26 [l0, l1, l2, l3, l4, l5] (st) M Q := w_goto mC_215 d215_53 (by decide)
theorem d215_56 : decode cX12_alike 56 = .ok (.iinc 1 1, 3) := by decide +kernel
theorem k215_56 {d : Nat} {x : Int32} {l0 l2 l3 l4 l5 : Option PV} {st : List PV} {M : Mem} {Q : Option PV → Mem → Prop} : WP d 215 56 [l0, some (vi x), l2, l3, l4, l5] (st) M Q = WP d 215 59 [l0, some (vi (x + 1)), l2, l3, l4, l5] (st) M Q := w_iinc mC_215 d215_56 rfl (by decide) rfl
theorem d215_59 : decode cX12_alike 59 = .ok (.goto (-49), 3) := by decide +kernel
theorem k215_59 {d : Nat} {l0 l1 l2 l3 l4 l5 : Option PV} {st : List PV} {M : Mem} {Q : Option PV → Mem → Prop} : WP d 215 59 [l0, l1, l2, l3, l4, l5] (st) M Q = WP d 215 10 [l0, l1, l2, l3, l4, l5] (st) M Q := w_goto mC_215 d215_59 (by decide)
theorem d215_62 : decode cX12_alike 62 = .ok (.aload_n 0, 1) := by decide +kernel
theorem k215_62 {d x : Nat} {l1 l2 l3 l4 l5 : Option PV} {st : List PV} {M : Mem} {Q : Option PV → Mem → Prop} : WP d 215 62 [some (vr x), l1, l2, l3, l4, l5] (st) M Q = WP d 215 63 [some (vr x), l1, l2, l3, l4, l5] (vr x :: st) M Q := w1 mC_215 d215_62 rfl rfl
theorem d215_63 : decode cX12_alike 63 = .ok (.invokevirtual 279, 3) := by decide +kernel
theorem k215_63 {d : Nat} {l0 l1 l2 l3 l4 l5 : Option PV} {st : List PV} {M : Mem} {Q : Option PV → Mem → Prop} {r : Nat} (hl : szL st ≤ 8) (hk : mK M r = 12) : WP (d + 1) 215 63 [l0, l1, l2, l3, l4, l5] (vr r :: st) M Q = WP d 192 0 [some (vr r)] [] M (fun v M' => WP (d + 1) 215 66 [l0, l1, l2, l3, l4, l5] (psh v st) M' Q) := w_callV mC_215 d215_63 (ci := 12) rfl rfl rfl (Nat.le_of_ble_eq_true rfl) (by decide) rfl hl hk
theorem d215_66 : decode cX12_alike 66 = .ok (.iconst 0, 1) := by decide +kernel
theorem k215_66 {d : Nat} {l0 l1 l2 l3 l4 l5 : Option PV} {st : List PV} {M : Mem} {Q : Option PV → Mem → Prop} : WP d 215 66 [l0, l1, l2, l3, l4, l5] (st) M Q = WP d 215 67 [l0, l1, l2, l3, l4, l5] (vi 0 :: st) M Q := w_iconst mC_215 d215_66 (by decide)
theorem d215_67 : decode cX12_alike 67 = .ok (.istore_n 1, 1) := by decide +kernel
theorem k215_67 {d : Nat} {l0 l1 l2 l3 l4 l5 : Option PV} {st : List PV} {M : Mem} {Q : Option PV → Mem → Prop} {x : Int32} : WP d 215 67 [l0, l1, l2, l3, l4, l5] (vi x :: st) M Q = WP d 215 68 [l0, some (vi x), l2, l3, l4, l5] (st) M Q := w1 mC_215 d215_67 rfl rfl
theorem d215_68 : decode cX12_alike 68 = .ok (.iconst 0, 1) := by decide +kernel
theorem k215_68 {d : Nat} {l0 l1 l2 l3 l4 l5 : Option PV} {st : List PV} {M : Mem} {Q : Option PV → Mem → Prop} : WP d 215 68 [l0, l1, l2, l3, l4, l5] (st) M Q = WP d 215 69 [l0, l1, l2, l3, l4, l5] (vi 0 :: st) M Q := w_iconst mC_215 d215_68 (by decide)
theorem d215_69 : decode cX12_alike 69 = .ok (.istore_n 2, 1) := by decide +kernel
theorem k215_69 {d : Nat} {l0 l1 l2 l3 l4 l5 : Option PV} {st : List PV} {M : Mem} {Q : Option PV → Mem → Prop} {x : Int32} : WP d 215 69 [l0, l1, l2, l3, l4, l5] (vi x :: st) M Q = WP d 215 70 [l0, l1, some (vi x), l3, l4, l5] (st) M Q := w1 mC_215 d215_69 rfl rfl
theorem d215_70 : decode cX12_alike 70 = .ok (.iload_n 2, 1) := by decide +kernel
theorem k215_70 {d : Nat} {x : Int32} {l0 l1 l3 l4 l5 : Option PV} {st : List PV} {M : Mem} {Q : Option PV → Mem → Prop} : WP d 215 70 [l0, l1, some (vi x), l3, l4, l5] (st) M Q = WP d 215 71 [l0, l1, some (vi x), l3, l4, l5] (vi x :: st) M Q := w1 mC_215 d215_70 rfl rfl
theorem d215_71 : decode cX12_alike 71 = .ok (.aload_n 0, 1) := by decide +kernel
theorem k215_71 {d x : Nat} {l1 l2 l3 l4 l5 : Option PV} {st : List PV} {M : Mem} {Q : Option PV → Mem → Prop} : WP d 215 71 [some (vr x), l1, l2, l3, l4, l5] (st) M Q = WP d 215 72 [some (vr x), l1, l2, l3, l4, l5] (vr x :: st) M Q := w1 mC_215 d215_71 rfl rfl
theorem d215_72 : decode cX12_alike 72 = .ok (.getfield 108, 3) := by decide +kernel
theorem k215_72 {d : Nat} {l0 l1 l2 l3 l4 l5 : Option PV} {st : List PV} {M : Mem} {Q : Option PV → Mem → Prop} {r : Nat} (hk : mK M r = 12) : WP d 215 72 [l0, l1, l2, l3, l4, l5] (vr r :: st) M Q = WP d 215 75 [l0, l1, l2, l3, l4, l5] (vi (mI M r 1) :: st) M Q := w_get mC_215 d215_72 fE_12_108 rfl (by rw [hk]; rfl)
theorem d215_75 : decode cX12_alike 75 = .ok (.if_icmp .ge 79, 3) := by decide +kernel
theorem k215_75 {d : Nat} {l0 l1 l2 l3 l4 l5 : Option PV} {st : List PV} {M : Mem} {Q : Option PV → Mem → Prop} {x y : Int32} : WP d 215 75 [l0, l1, l2, l3, l4, l5] (vi y :: vi x :: st) M Q = (if y ≤ x then WP d 215 154 [l0, l1, l2, l3, l4, l5] (st) M Q else WP d 215 78 [l0, l1, l2, l3, l4, l5] (st) M Q) := w_ic_ge mC_215 d215_75 (by decide)
theorem d215_78 : decode cX12_alike 78 = .ok (.iconst 0, 1) := by decide +kernel
theorem k215_78 {d : Nat} {l0 l1 l2 l3 l4 l5 : Option PV} {st : List PV} {M : Mem} {Q : Option PV → Mem → Prop} : WP d 215 78 [l0, l1, l2, l3, l4, l5] (st) M Q = WP d 215 79 [l0, l1, l2, l3, l4, l5] (vi 0 :: st) M Q := w_iconst mC_215 d215_78 (by decide)
theorem d215_79 : decode cX12_alike 79 = .ok (.istore_n 3, 1) := by decide +kernel
theorem k215_79 {d : Nat} {l0 l1 l2 l3 l4 l5 : Option PV} {st : List PV} {M : Mem} {Q : Option PV → Mem → Prop} {x : Int32} : WP d 215 79 [l0, l1, l2, l3, l4, l5] (vi x :: st) M Q = WP d 215 80 [l0, l1, l2, some (vi x), l4, l5] (st) M Q := w1 mC_215 d215_79 rfl rfl
theorem d215_80 : decode cX12_alike 80 = .ok (.iload_n 3, 1) := by decide +kernel
theorem k215_80 {d : Nat} {x : Int32} {l0 l1 l2 l4 l5 : Option PV} {st : List PV} {M : Mem} {Q : Option PV → Mem → Prop} : WP d 215 80 [l0, l1, l2, some (vi x), l4, l5] (st) M Q = WP d 215 81 [l0, l1, l2, some (vi x), l4, l5] (vi x :: st) M Q := w1 mC_215 d215_80 rfl rfl
theorem d215_81 : decode cX12_alike 81 = .ok (.iload_n 2, 1) := by decide +kernel
theorem k215_81 {d : Nat} {x : Int32} {l0 l1 l3 l4 l5 : Option PV} {st : List PV} {M : Mem} {Q : Option PV → Mem → Prop} : WP d 215 81 [l0, l1, some (vi x), l3, l4, l5] (st) M Q = WP d 215 82 [l0, l1, some (vi x), l3, l4, l5] (vi x :: st) M Q := w1 mC_215 d215_81 rfl rfl
theorem d215_82 : decode cX12_alike 82 = .ok (.if_icmp .ge 66, 3) := by decide +kernel
theorem k215_82 {d : Nat} {l0 l1 l2 l3 l4 l5 : Option PV} {st : List PV} {M : Mem} {Q : Option PV → Mem → Prop} {x y : Int32} : WP d 215 82 [l0, l1, l2, l3, l4, l5] (vi y :: vi x :: st) M Q = (if y ≤ x then WP d 215 148 [l0, l1, l2, l3, l4, l5] (st) M Q else WP d 215 85 [l0, l1, l2, l3, l4, l5] (st) M Q) := w_ic_ge mC_215 d215_82 (by decide)
theorem d215_85 : decode cX12_alike 85 = .ok (.iconst 1, 1) := by decide +kernel
theorem k215_85 {d : Nat} {l0 l1 l2 l3 l4 l5 : Option PV} {st : List PV} {M : Mem} {Q : Option PV → Mem → Prop} : WP d 215 85 [l0, l1, l2, l3, l4, l5] (st) M Q = WP d 215 86 [l0, l1, l2, l3, l4, l5] (vi 1 :: st) M Q := w_iconst mC_215 d215_85 (by decide)
theorem d215_86 : decode cX12_alike 86 = .ok (.istore 4, 2) := by decide +kernel
theorem k215_86 {d : Nat} {l0 l1 l2 l3 l4 l5 : Option PV} {st : List PV} {M : Mem} {Q : Option PV → Mem → Prop} {x : Int32} : WP d 215 86 [l0, l1, l2, l3, l4, l5] (vi x :: st) M Q = WP d 215 88 [l0, l1, l2, l3, some (vi x), l5] (st) M Q := w1 mC_215 d215_86 rfl rfl
theorem d215_88 : decode cX12_alike 88 = .ok (.iconst 0, 1) := by decide +kernel
theorem k215_88 {d : Nat} {l0 l1 l2 l3 l4 l5 : Option PV} {st : List PV} {M : Mem} {Q : Option PV → Mem → Prop} : WP d 215 88 [l0, l1, l2, l3, l4, l5] (st) M Q = WP d 215 89 [l0, l1, l2, l3, l4, l5] (vi 0 :: st) M Q := w_iconst mC_215 d215_88 (by decide)
theorem d215_89 : decode cX12_alike 89 = .ok (.istore 5, 2) := by decide +kernel
theorem k215_89 {d : Nat} {l0 l1 l2 l3 l4 l5 : Option PV} {st : List PV} {M : Mem} {Q : Option PV → Mem → Prop} {x : Int32} : WP d 215 89 [l0, l1, l2, l3, l4, l5] (vi x :: st) M Q = WP d 215 91 [l0, l1, l2, l3, l4, some (vi x)] (st) M Q := w1 mC_215 d215_89 rfl rfl
theorem d215_91 : decode cX12_alike 91 = .ok (.iload 5, 2) := by decide +kernel
theorem k215_91 {d : Nat} {x : Int32} {l0 l1 l2 l3 l4 : Option PV} {st : List PV} {M : Mem} {Q : Option PV → Mem → Prop} : WP d 215 91 [l0, l1, l2, l3, l4, some (vi x)] (st) M Q = WP d 215 93 [l0, l1, l2, l3, l4, some (vi x)] (vi x :: st) M Q := w1 mC_215 d215_91 rfl rfl
theorem d215_93 : decode cX12_alike 93 = .ok (.bipush 12, 2) := by decide +kernel
theorem k215_93 {d : Nat} {l0 l1 l2 l3 l4 l5 : Option PV} {st : List PV} {M : Mem} {Q : Option PV → Mem → Prop} : WP d 215 93 [l0, l1, l2, l3, l4, l5] (st) M Q = WP d 215 95 [l0, l1, l2, l3, l4, l5] (vi 12 :: st) M Q := w_bipush mC_215 d215_93 (by decide)
theorem d215_95 : decode cX12_alike 95 = .ok (.if_icmp .gt 39, 3) := by decide +kernel
theorem k215_95 {d : Nat} {l0 l1 l2 l3 l4 l5 : Option PV} {st : List PV} {M : Mem} {Q : Option PV → Mem → Prop} {x y : Int32} : WP d 215 95 [l0, l1, l2, l3, l4, l5] (vi y :: vi x :: st) M Q = (if y < x then WP d 215 134 [l0, l1, l2, l3, l4, l5] (st) M Q else WP d 215 98 [l0, l1, l2, l3, l4, l5] (st) M Q) := w_ic_gt mC_215 d215_95 (by decide)
theorem d215_98 : decode cX12_alike 98 = .ok (.aload_n 0, 1) := by decide +kernel
theorem k215_98 {d x : Nat} {l1 l2 l3 l4 l5 : Option PV} {st : List PV} {M : Mem} {Q : Option PV → Mem → Prop} : WP d 215 98 [some (vr x), l1, l2, l3, l4, l5] (st) M Q = WP d 215 99 [some (vr x), l1, l2, l3, l4, l5] (vr x :: st) M Q := w1 mC_215 d215_98 rfl rfl
theorem d215_99 : decode cX12_alike 99 = .ok (.getfield 97, 3) := by decide +kernel
theorem k215_99 {d : Nat} {l0 l1 l2 l3 l4 l5 : Option PV} {st : List PV} {M : Mem} {Q : Option PV → Mem → Prop} {r : Nat} (hk : mK M r = 12) : WP d 215 99 [l0, l1, l2, l3, l4, l5] (vr r :: st) M Q = WP d 215 102 [l0, l1, l2, l3, l4, l5] (vr (mR M r 47) :: st) M Q := w_getr mC_215 d215_99 fE_12_97 rfl (by rw [hk]; rfl)
theorem d215_102 : decode cX12_alike 102 = .ok (.bipush 13, 2) := by decide +kernel
theorem k215_102 {d : Nat} {l0 l1 l2 l3 l4 l5 : Option PV} {st : List PV} {M : Mem} {Q : Option PV → Mem → Prop} : WP d 215 102 [l0, l1, l2, l3, l4, l5] (st) M Q = WP d 215 104 [l0, l1, l2, l3, l4, l5] (vi 13 :: st) M Q := w_bipush mC_215 d215_102 (by decide)
theorem d215_104 : decode cX12_alike 104 = .ok (.iload_n 2, 1) := by decide +kernel
theorem k215_104 {d : Nat} {x : Int32} {l0 l1 l3 l4 l5 : Option PV} {st : List PV} {M : Mem} {Q : Option PV → Mem → Prop} : WP d 215 104 [l0, l1, some (vi x), l3, l4, l5] (st) M Q = WP d 215 105 [l0, l1, some (vi x), l3, l4, l5] (vi x :: st) M Q := w1 mC_215 d215_104 rfl rfl
theorem d215_105 : decode cX12_alike 105 = .ok (.imul, 1) := by decide +kernel
theorem k215_105 {d : Nat} {l0 l1 l2 l3 l4 l5 : Option PV} {st : List PV} {M : Mem} {Q : Option PV → Mem → Prop} {x y : Int32} : WP d 215 105 [l0, l1, l2, l3, l4, l5] (vi y :: vi x :: st) M Q = WP d 215 106 [l0, l1, l2, l3, l4, l5] (vi (x * y) :: st) M Q := w1 mC_215 d215_105 rfl rfl
theorem d215_106 : decode cX12_alike 106 = .ok (.iload 5, 2) := by decide +kernel
theorem k215_106 {d : Nat} {x : Int32} {l0 l1 l2 l3 l4 : Option PV} {st : List PV} {M : Mem} {Q : Option PV → Mem → Prop} : WP d 215 106 [l0, l1, l2, l3, l4, some (vi x)] (st) M Q = WP d 215 108 [l0, l1, l2, l3, l4, some (vi x)] (vi x :: st) M Q := w1 mC_215 d215_106 rfl rfl
theorem d215_108 : decode cX12_alike 108 = .ok (.iadd, 1) := by decide +kernel
theorem k215_108 {d : Nat} {l0 l1 l2 l3 l4 l5 : Option PV} {st : List PV} {M : Mem} {Q : Option PV → Mem → Prop} {x y : Int32} : WP d 215 108 [l0, l1, l2, l3, l4, l5] (vi y :: vi x :: st) M Q = WP d 215 109 [l0, l1, l2, l3, l4, l5] (vi (x + y) :: st) M Q := w1 mC_215 d215_108 rfl rfl
theorem d215_109 : decode cX12_alike 109 = .ok (.iaload, 1) := by decide +kernel
theorem k215_109 {d : Nat} {l0 l1 l2 l3 l4 l5 : Option PV} {st : List PV} {M : Mem} {Q : Option PV → Mem → Prop} {r : Nat} {j : Int32} (hk : mK M r = 13) (hj : inb j (mN M r)) (h1 : r ≠ 1) : WP d 215 109 [l0, l1, l2, l3, l4, l5] (vi j :: vr r :: st) M Q = WP d 215 110 [l0, l1, l2, l3, l4, l5] (vi (mI M r (ix j)) :: st) M Q := w_iald mC_215 d215_109 (by decide) hk hj h1
theorem d215_110 : decode cX12_alike 110 = .ok (.aload_n 0, 1) := by decide +kernel
theorem k215_110 {d x : Nat} {l1 l2 l3 l4 l5 : Option PV} {st : List PV} {M : Mem} {Q : Option PV → Mem → Prop} : WP d 215 110 [some (vr x), l1, l2, l3, l4, l5] (st) M Q = WP d 215 111 [some (vr x), l1, l2, l3, l4, l5] (vr x :: st) M Q := w1 mC_215 d215_110 rfl rfl
theorem d215_111 : decode cX12_alike 111 = .ok (.getfield 97, 3) := by decide +kernel
theorem k215_111 {d : Nat} {l0 l1 l2 l3 l4 l5 : Option PV} {st : List PV} {M : Mem} {Q : Option PV → Mem → Prop} {r : Nat} (hk : mK M r = 12) : WP d 215 111 [l0, l1, l2, l3, l4, l5] (vr r :: st) M Q = WP d 215 114 [l0, l1, l2, l3, l4, l5] (vr (mR M r 47) :: st) M Q := w_getr mC_215 d215_111 fE_12_97 rfl (by rw [hk]; rfl)
theorem d215_114 : decode cX12_alike 114 = .ok (.bipush 13, 2) := by decide +kernel
theorem k215_114 {d : Nat} {l0 l1 l2 l3 l4 l5 : Option PV} {st : List PV} {M : Mem} {Q : Option PV → Mem → Prop} : WP d 215 114 [l0, l1, l2, l3, l4, l5] (st) M Q = WP d 215 116 [l0, l1, l2, l3, l4, l5] (vi 13 :: st) M Q := w_bipush mC_215 d215_114 (by decide)
theorem d215_116 : decode cX12_alike 116 = .ok (.iload_n 3, 1) := by decide +kernel
theorem k215_116 {d : Nat} {x : Int32} {l0 l1 l2 l4 l5 : Option PV} {st : List PV} {M : Mem} {Q : Option PV → Mem → Prop} : WP d 215 116 [l0, l1, l2, some (vi x), l4, l5] (st) M Q = WP d 215 117 [l0, l1, l2, some (vi x), l4, l5] (vi x :: st) M Q := w1 mC_215 d215_116 rfl rfl
theorem d215_117 : decode cX12_alike 117 = .ok (.imul, 1) := by decide +kernel
theorem k215_117 {d : Nat} {l0 l1 l2 l3 l4 l5 : Option PV} {st : List PV} {M : Mem} {Q : Option PV → Mem → Prop} {x y : Int32} : WP d 215 117 [l0, l1, l2, l3, l4, l5] (vi y :: vi x :: st) M Q = WP d 215 118 [l0, l1, l2, l3, l4, l5] (vi (x * y) :: st) M Q := w1 mC_215 d215_117 rfl rfl
theorem d215_118 : decode cX12_alike 118 = .ok (.iload 5, 2) := by decide +kernel
theorem k215_118 {d : Nat} {x : Int32} {l0 l1 l2 l3 l4 : Option PV} {st : List PV} {M : Mem} {Q : Option PV → Mem → Prop} : WP d 215 118 [l0, l1, l2, l3, l4, some (vi x)] (st) M Q = WP d 215 120 [l0, l1, l2, l3, l4, some (vi x)] (vi x :: st) M Q := w1 mC_215 d215_118 rfl rfl
theorem d215_120 : decode cX12_alike 120 = .ok (.iadd, 1) := by decide +kernel
theorem k215_120 {d : Nat} {l0 l1 l2 l3 l4 l5 : Option PV} {st : List PV} {M : Mem} {Q : Option PV → Mem → Prop} {x y : Int32} : WP d 215 120 [l0, l1, l2, l3, l4, l5] (vi y :: vi x :: st) M Q = WP d 215 121 [l0, l1, l2, l3, l4, l5] (vi (x + y) :: st) M Q := w1 mC_215 d215_120 rfl rfl
theorem d215_121 : decode cX12_alike 121 = .ok (.iaload, 1) := by decide +kernel
theorem k215_121 {d : Nat} {l0 l1 l2 l3 l4 l5 : Option PV} {st : List PV} {M : Mem} {Q : Option PV → Mem → Prop} {r : Nat} {j : Int32} (hk : mK M r = 13) (hj : inb j (mN M r)) (h1 : r ≠ 1) : WP d 215 121 [l0, l1, l2, l3, l4, l5] (vi j :: vr r :: st) M Q = WP d 215 122 [l0, l1, l2, l3, l4, l5] (vi (mI M r (ix j)) :: st) M Q := w_iald mC_215 d215_121 (by decide) hk hj h1
theorem d215_122 : decode cX12_alike 122 = .ok (.if_icmp .eq 6, 3) := by decide +kernel
theorem k215_122 {d : Nat} {l0 l1 l2 l3 l4 l5 : Option PV} {st : List PV} {M : Mem} {Q : Option PV → Mem → Prop} {x y : Int32} : WP d 215 122 [l0, l1, l2, l3, l4, l5] (vi y :: vi x :: st) M Q = (if x = y then WP d 215 128 [l0, l1, l2, l3, l4, l5] (st) M Q else WP d 215 125 [l0, l1, l2, l3, l4, l5] (st) M Q) := w_ic_eq mC_215 d215_122 (by decide)
theorem d215_125 : decode cX12_alike 125 = .ok (.iconst 0, 1) := by decide +kernel
theorem k215_125 {d : Nat} {l0 l1 l2 l3 l4 l5 : Option PV} {st : List PV} {M : Mem} {Q : Option PV → Mem → Prop} : WP d 215 125 [l0, l1, l2, l3, l4, l5] (st) M Q = WP d 215 126 [l0, l1, l2, l3, l4, l5] (vi 0 :: st) M Q := w_iconst mC_215 d215_125 (by decide)
theorem d215_126 : decode cX12_alike 126 = .ok (.istore 4, 2) := by decide +kernel
theorem k215_126 {d : Nat} {l0 l1 l2 l3 l4 l5 : Option PV} {st : List PV} {M : Mem} {Q : Option PV → Mem → Prop} {x : Int32} : WP d 215 126 [l0, l1, l2, l3, l4, l5] (vi x :: st) M Q = WP d 215 128 [l0, l1, l2, l3, some (vi x), l5] (st) M Q := w1 mC_215 d215_126 rfl rfl
theorem d215_128 : decode cX12_alike 128 = .ok (.iinc 5 1, 3) := by decide +kernel
theorem k215_128 {d : Nat} {x : Int32} {l0 l1 l2 l3 l4 : Option PV} {st : List PV} {M : Mem} {Q : Option PV → Mem → Prop} : WP d 215 128 [l0, l1, l2, l3, l4, some (vi x)] (st) M Q = WP d 215 131 [l0, l1, l2, l3, l4, some (vi (x + 1))] (st) M Q := w_iinc mC_215 d215_128 rfl (by decide) rfl
theorem d215_131 : decode cX12_alike 131 = .ok (.goto (-40), 3) := by decide +kernel
theorem k215_131 {d : Nat} {l0 l1 l2 l3 l4 l5 : Option PV} {st : List PV} {M : Mem} {Q : Option PV → Mem → Prop} : WP d 215 131 [l0, l1, l2, l3, l4, l5] (st) M Q = WP d 215 91 [l0, l1, l2, l3, l4, l5] (st) M Q := w_goto mC_215 d215_131 (by decide)
theorem d215_134 : decode cX12_alike 134 = .ok (.iload 4, 2) := by decide +kernel
theorem k215_134 {d : Nat} {x : Int32} {l0 l1 l2 l3 l5 : Option PV} {st : List PV} {M : Mem} {Q : Option PV → Mem → Prop} : WP d 215 134 [l0, l1, l2, l3, some (vi x), l5] (st) M Q = WP d 215 136 [l0, l1, l2, l3, some (vi x), l5] (vi x :: st) M Q := w1 mC_215 d215_134 rfl rfl
theorem d215_136 : decode cX12_alike 136 = .ok (.ifCond .eq 6, 3) := by decide +kernel
theorem k215_136 {d : Nat} {l0 l1 l2 l3 l4 l5 : Option PV} {st : List PV} {M : Mem} {Q : Option PV → Mem → Prop} {x : Int32} : WP d 215 136 [l0, l1, l2, l3, l4, l5] (vi x :: st) M Q = (if x = 0 then WP d 215 142 [l0, l1, l2, l3, l4, l5] (st) M Q else WP d 215 139 [l0, l1, l2, l3, l4, l5] (st) M Q) := w_if_eq mC_215 d215_136 (by decide)
theorem d215_139 : decode cX12_alike 139 = .ok (.iinc 1 1, 3) := by decide +kernel
theorem k215_139 {d : Nat} {x : Int32} {l0 l2 l3 l4 l5 : Option PV} {st : List PV} {M : Mem} {Q : Option PV → Mem → Prop} : WP d 215 139 [l0, some (vi x), l2, l3, l4, l5] (st) M Q = WP d 215 142 [l0, some (vi (x + 1)), l2, l3, l4, l5] (st) M Q := w_iinc mC_215 d215_139 rfl (by decide) rfl
theorem d215_142 : decode cX12_alike 142 = .ok (.iinc 3 1, 3) := by decide +kernel
theorem k215_142 {d : Nat} {x : Int32} {l0 l1 l2 l4 l5 : Option PV} {st : List PV} {M : Mem} {Q : Option PV → Mem → Prop} : WP d 215 142 [l0, l1, l2, some (vi x), l4, l5] (st) M Q = WP d 215 145 [l0, l1, l2, some (vi (x + 1)), l4, l5] (st) M Q := w_iinc mC_215 d215_142 rfl (by decide) rfl
theorem d215_145 : decode cX12_alike 145 = .ok (.goto (-65), 3) := by decide +kernel
theorem k215_145 {d : Nat} {l0 l1 l2 l3 l4 l5 : Option PV} {st : List PV} {M : Mem} {Q : Option PV → Mem → Prop} : WP d 215 145 [l0, l1, l2, l3, l4, l5] (st) M Q = WP d 215 80 [l0, l1, l2, l3, l4, l5] (st) M Q := w_goto mC_215 d215_145 (by decide)
theorem d215_148 : decode cX12_alike 148 = .ok (.iinc 2 1, 3) := by decide +kernel
theorem k215_148 {d : Nat} {x : Int32} {l0 l1 l3 l4 l5 : Option PV} {st : List PV} {M : Mem} {Q : Option PV → Mem → Prop} : WP d 215 148 [l0, l1, some (vi x), l3, l4, l5] (st) M Q = WP d 215 151 [l0, l1, some (vi (x + 1)), l3, l4, l5] (st) M Q := w_iinc mC_215 d215_148 rfl (by decide) rfl
theorem d215_151 : decode cX12_alike 151 = .ok (.goto (-81), 3) := by decide +kernel
theorem k215_151 {d : Nat} {l0 l1 l2 l3 l4 l5 : Option PV} {st : List PV} {M : Mem} {Q : Option PV → Mem → Prop} : WP d 215 151 [l0, l1, l2, l3, l4, l5] (st) M Q = WP d 215 70 [l0, l1, l2, l3, l4, l5] (st) M Q := w_goto mC_215 d215_151 (by decide)
theorem d215_154 : decode cX12_alike 154 = .ok (.iload_n 1, 1) := by decide +kernel
theorem k215_154 {d : Nat} {x : Int32} {l0 l2 l3 l4 l5 : Option PV} {st : List PV} {M : Mem} {Q : Option PV → Mem → Prop} : WP d 215 154 [l0, some (vi x), l2, l3, l4, l5] (st) M Q = WP d 215 155 [l0, some (vi x), l2, l3, l4, l5] (vi x :: st) M Q := w1 mC_215 d215_154 rfl rfl
theorem d215_155 : decode cX12_alike 155 = .ok (.ireturn, 1) := by decide +kernel
theorem k215_155 {d : Nat} {l0 l1 l2 l3 l4 l5 : Option PV} {M : Mem} {Q : Option PV → Mem → Prop} {x : Int32} : WP d 215 155 [l0, l1, l2, l3, l4, l5] ([vi x]) M Q = Q (some (vi x)) M := w_iret mC_215 d215_155 rfl
theorem d216_0 : decode cX12_nearest 0 = .ok (.bipush (-2), 2) := by decide +kernel
theorem k216_0 {d : Nat} {l0 l1 l2 l3 : Option PV} {st : List PV} {M : Mem} {Q : Option PV → Mem → Prop} : WP d 216 0 [l0, l1, l2, l3] (st) M Q = WP d 216 2 [l0, l1, l2, l3] (vi (-2) :: st) M Q := w_bipush mC_216 d216_0 (by decide)
theorem d216_2 : decode cX12_nearest 2 = .ok (.istore_n 2, 1) := by decide +kernel
theorem k216_2 {d : Nat} {l0 l1 l2 l3 : Option PV} {st : List PV} {M : Mem} {Q : Option PV → Mem → Prop} {x : Int32} : WP d 216 2 [l0, l1, l2, l3] (vi x :: st) M Q = WP d 216 3 [l0, l1, some (vi x), l3] (st) M Q := w1 mC_216 d216_2 rfl rfl
theorem d216_3 : decode cX12_nearest 3 = .ok (.iconst 0, 1) := by decide +kernel
theorem k216_3 {d : Nat} {l0 l1 l2 l3 : Option PV} {st : List PV} {M : Mem} {Q : Option PV → Mem → Prop} : WP d 216 3 [l0, l1, l2, l3] (st) M Q = WP d 216 4 [l0, l1, l2, l3] (vi 0 :: st) M Q := w_iconst mC_216 d216_3 (by decide)
theorem d216_4 : decode cX12_nearest 4 = .ok (.istore_n 3, 1) := by decide +kernel
theorem k216_4 {d : Nat} {l0 l1 l2 l3 : Option PV} {st : List PV} {M : Mem} {Q : Option PV → Mem → Prop} {x : Int32} : WP d 216 4 [l0, l1, l2, l3] (vi x :: st) M Q = WP d 216 5 [l0, l1, l2, some (vi x)] (st) M Q := w1 mC_216 d216_4 rfl rfl
theorem d216_5 : decode cX12_nearest 5 = .ok (.iload_n 3, 1) := by decide +kernel
theorem k216_5 {d : Nat} {x : Int32} {l0 l1 l2 : Option PV} {st : List PV} {M : Mem} {Q : Option PV → Mem → Prop} : WP d 216 5 [l0, l1, l2, some (vi x)] (st) M Q = WP d 216 6 [l0, l1, l2, some (vi x)] (vi x :: st) M Q := w1 mC_216 d216_5 rfl rfl
theorem d216_6 : decode cX12_nearest 6 = .ok (.aload_n 0, 1) := by decide +kernel
theorem k216_6 {d x : Nat} {l1 l2 l3 : Option PV} {st : List PV} {M : Mem} {Q : Option PV → Mem → Prop} : WP d 216 6 [some (vr x), l1, l2, l3] (st) M Q = WP d 216 7 [some (vr x), l1, l2, l3] (vr x :: st) M Q := w1 mC_216 d216_6 rfl rfl
theorem d216_7 : decode cX12_nearest 7 = .ok (.getfield 100, 3) := by decide +kernel
theorem k216_7 {d : Nat} {l0 l1 l2 l3 : Option PV} {st : List PV} {M : Mem} {Q : Option PV → Mem → Prop} {r : Nat} (hk : mK M r = 12) : WP d 216 7 [l0, l1, l2, l3] (vr r :: st) M Q = WP d 216 10 [l0, l1, l2, l3] (vi (mI M r 0) :: st) M Q := w_get mC_216 d216_7 fE_12_100 rfl (by rw [hk]; rfl)
theorem d216_10 : decode cX12_nearest 10 = .ok (.if_icmp .ge 55, 3) := by decide +kernel
theorem k216_10 {d : Nat} {l0 l1 l2 l3 : Option PV} {st : List PV} {M : Mem} {Q : Option PV → Mem → Prop} {x y : Int32} : WP d 216 10 [l0, l1, l2, l3] (vi y :: vi x :: st) M Q = (if y ≤ x then WP d 216 65 [l0, l1, l2, l3] (st) M Q else WP d 216 13 [l0, l1, l2, l3] (st) M Q) := w_ic_ge mC_216 d216_10 (by decide)
theorem d216_13 : decode cX12_nearest 13 = .ok (.iload_n 3, 1) := by decide +kernel
theorem k216_13 {d : Nat} {x : Int32} {l0 l1 l2 : Option PV} {st : List PV} {M : Mem} {Q : Option PV → Mem → Prop} : WP d 216 13 [l0, l1, l2, some (vi x)] (st) M Q = WP d 216 14 [l0, l1, l2, some (vi x)] (vi x :: st) M Q := w1 mC_216 d216_13 rfl rfl
theorem d216_14 : decode cX12_nearest 14 = .ok (.iload_n 1, 1) := by decide +kernel
theorem k216_14 {d : Nat} {x : Int32} {l0 l2 l3 : Option PV} {st : List PV} {M : Mem} {Q : Option PV → Mem → Prop} : WP d 216 14 [l0, some (vi x), l2, l3] (st) M Q = WP d 216 15 [l0, some (vi x), l2, l3] (vi x :: st) M Q := w1 mC_216 d216_14 rfl rfl
theorem d216_15 : decode cX12_nearest 15 = .ok (.if_icmp .eq 44, 3) := by decide +kernel
theorem k216_15 {d : Nat} {l0 l1 l2 l3 : Option PV} {st : List PV} {M : Mem} {Q : Option PV → Mem → Prop} {x y : Int32} : WP d 216 15 [l0, l1, l2, l3] (vi y :: vi x :: st) M Q = (if x = y then WP d 216 59 [l0, l1, l2, l3] (st) M Q else WP d 216 18 [l0, l1, l2, l3] (st) M Q) := w_ic_eq mC_216 d216_15 (by decide)
theorem d216_18 : decode cX12_nearest 18 = .ok (.iload_n 2, 1) := by decide +kernel
theorem k216_18 {d : Nat} {x : Int32} {l0 l1 l3 : Option PV} {st : List PV} {M : Mem} {Q : Option PV → Mem → Prop} : WP d 216 18 [l0, l1, some (vi x), l3] (st) M Q = WP d 216 19 [l0, l1, some (vi x), l3] (vi x :: st) M Q := w1 mC_216 d216_18 rfl rfl
theorem d216_19 : decode cX12_nearest 19 = .ok (.bipush (-2), 2) := by decide +kernel
theorem k216_19 {d : Nat} {l0 l1 l2 l3 : Option PV} {st : List PV} {M : Mem} {Q : Option PV → Mem → Prop} : WP d 216 19 [l0, l1, l2, l3] (st) M Q = WP d 216 21 [l0, l1, l2, l3] (vi (-2) :: st) M Q := w_bipush mC_216 d216_19 (by decide)
theorem d216_21 : decode cX12_nearest 21 = .ok (.if_icmp .eq 36, 3) := by decide +kernel
theorem k216_21 {d : Nat} {l0 l1 l2 l3 : Option PV} {st : List PV} {M : Mem} {Q : Option PV → Mem → Prop} {x y : Int32} : WP d 216 21 [l0, l1, l2, l3] (vi y :: vi x :: st) M Q = (if x = y then WP d 216 57 [l0, l1, l2, l3] (st) M Q else WP d 216 24 [l0, l1, l2, l3] (st) M Q) := w_ic_eq mC_216 d216_21 (by decide)
theorem d216_24 : decode cX12_nearest 24 = .ok (.aload_n 0, 1) := by decide +kernel
theorem k216_24 {d x : Nat} {l1 l2 l3 : Option PV} {st : List PV} {M : Mem} {Q : Option PV → Mem → Prop} : WP d 216 24 [some (vr x), l1, l2, l3] (st) M Q = WP d 216 25 [some (vr x), l1, l2, l3] (vr x :: st) M Q := w1 mC_216 d216_24 rfl rfl
theorem d216_25 : decode cX12_nearest 25 = .ok (.getfield 9, 3) := by decide +kernel
theorem k216_25 {d : Nat} {l0 l1 l2 l3 : Option PV} {st : List PV} {M : Mem} {Q : Option PV → Mem → Prop} {r : Nat} (hk : mK M r = 12) : WP d 216 25 [l0, l1, l2, l3] (vr r :: st) M Q = WP d 216 28 [l0, l1, l2, l3] (vr (mR M r 2) :: st) M Q := w_getr mC_216 d216_25 fE_12_9 rfl (by rw [hk]; rfl)
theorem d216_28 : decode cX12_nearest 28 = .ok (.iload_n 1, 1) := by decide +kernel
theorem k216_28 {d : Nat} {x : Int32} {l0 l2 l3 : Option PV} {st : List PV} {M : Mem} {Q : Option PV → Mem → Prop} : WP d 216 28 [l0, some (vi x), l2, l3] (st) M Q = WP d 216 29 [l0, some (vi x), l2, l3] (vi x :: st) M Q := w1 mC_216 d216_28 rfl rfl
theorem d216_29 : decode cX12_nearest 29 = .ok (.iaload, 1) := by decide +kernel
theorem k216_29 {d : Nat} {l0 l1 l2 l3 : Option PV} {st : List PV} {M : Mem} {Q : Option PV → Mem → Prop} {r : Nat} {j : Int32} (hk : mK M r = 13) (hj : inb j (mN M r)) (h1 : r ≠ 1) : WP d 216 29 [l0, l1, l2, l3] (vi j :: vr r :: st) M Q = WP d 216 30 [l0, l1, l2, l3] (vi (mI M r (ix j)) :: st) M Q := w_iald mC_216 d216_29 (by decide) hk hj h1
theorem d216_30 : decode cX12_nearest 30 = .ok (.aload_n 0, 1) := by decide +kernel
theorem k216_30 {d x : Nat} {l1 l2 l3 : Option PV} {st : List PV} {M : Mem} {Q : Option PV → Mem → Prop} : WP d 216 30 [some (vr x), l1, l2, l3] (st) M Q = WP d 216 31 [some (vr x), l1, l2, l3] (vr x :: st) M Q := w1 mC_216 d216_30 rfl rfl
theorem d216_31 : decode cX12_nearest 31 = .ok (.getfield 9, 3) := by decide +kernel
theorem k216_31 {d : Nat} {l0 l1 l2 l3 : Option PV} {st : List PV} {M : Mem} {Q : Option PV → Mem → Prop} {r : Nat} (hk : mK M r = 12) : WP d 216 31 [l0, l1, l2, l3] (vr r :: st) M Q = WP d 216 34 [l0, l1, l2, l3] (vr (mR M r 2) :: st) M Q := w_getr mC_216 d216_31 fE_12_9 rfl (by rw [hk]; rfl)
theorem d216_34 : decode cX12_nearest 34 = .ok (.iload_n 3, 1) := by decide +kernel
theorem k216_34 {d : Nat} {x : Int32} {l0 l1 l2 : Option PV} {st : List PV} {M : Mem} {Q : Option PV → Mem → Prop} : WP d 216 34 [l0, l1, l2, some (vi x)] (st) M Q = WP d 216 35 [l0, l1, l2, some (vi x)] (vi x :: st) M Q := w1 mC_216 d216_34 rfl rfl
theorem d216_35 : decode cX12_nearest 35 = .ok (.iaload, 1) := by decide +kernel
theorem k216_35 {d : Nat} {l0 l1 l2 l3 : Option PV} {st : List PV} {M : Mem} {Q : Option PV → Mem → Prop} {r : Nat} {j : Int32} (hk : mK M r = 13) (hj : inb j (mN M r)) (h1 : r ≠ 1) : WP d 216 35 [l0, l1, l2, l3] (vi j :: vr r :: st) M Q = WP d 216 36 [l0, l1, l2, l3] (vi (mI M r (ix j)) :: st) M Q := w_iald mC_216 d216_35 (by decide) hk hj h1
theorem d216_36 : decode cX12_nearest 36 = .ok (.invokestatic 234, 3) := by decide +kernel
theorem k216_36 {d : Nat} {l0 l1 l2 l3 : Option PV} {st : List PV} {M : Mem} {Q : Option PV → Mem → Prop} {a0 a1 : Int32} (hl : szL st ≤ 8) : WP (d + 1) 216 36 [l0, l1, l2, l3] (vi a1 :: vi a0 :: st) M Q = WP d 180 0 [some (vi a0), some (vi a1)] [] M (fun v M' => WP (d + 1) 216 39 [l0, l1, l2, l3] (psh v st) M' Q) := w_callS mC_216 d216_36 rfl rfl (Nat.le_of_ble_eq_true rfl) (by decide) rfl hl
theorem d216_39 : decode cX12_nearest 39 = .ok (.aload_n 0, 1) := by decide +kernel
theorem k216_39 {d x : Nat} {l1 l2 l3 : Option PV} {st : List PV} {M : Mem} {Q : Option PV → Mem → Prop} : WP d 216 39 [some (vr x), l1, l2, l3] (st) M Q = WP d 216 40 [some (vr x), l1, l2, l3] (vr x :: st) M Q := w1 mC_216 d216_39 rfl rfl
theorem d216_40 : decode cX12_nearest 40 = .ok (.getfield 9, 3) := by decide +kernel
theorem k216_40 {d : Nat} {l0 l1 l2 l3 : Option PV} {st : List PV} {M : Mem} {Q : Option PV → Mem → Prop} {r : Nat} (hk : mK M r = 12) : WP d 216 40 [l0, l1, l2, l3] (vr r :: st) M Q = WP d 216 43 [l0, l1, l2, l3] (vr (mR M r 2) :: st) M Q := w_getr mC_216 d216_40 fE_12_9 rfl (by rw [hk]; rfl)
theorem d216_43 : decode cX12_nearest 43 = .ok (.iload_n 1, 1) := by decide +kernel
theorem k216_43 {d : Nat} {x : Int32} {l0 l2 l3 : Option PV} {st : List PV} {M : Mem} {Q : Option PV → Mem → Prop} : WP d 216 43 [l0, some (vi x), l2, l3] (st) M Q = WP d 216 44 [l0, some (vi x), l2, l3] (vi x :: st) M Q := w1 mC_216 d216_43 rfl rfl
theorem d216_44 : decode cX12_nearest 44 = .ok (.iaload, 1) := by decide +kernel
theorem k216_44 {d : Nat} {l0 l1 l2 l3 : Option PV} {st : List PV} {M : Mem} {Q : Option PV → Mem → Prop} {r : Nat} {j : Int32} (hk : mK M r = 13) (hj : inb j (mN M r)) (h1 : r ≠ 1) : WP d 216 44 [l0, l1, l2, l3] (vi j :: vr r :: st) M Q = WP d 216 45 [l0, l1, l2, l3] (vi (mI M r (ix j)) :: st) M Q := w_iald mC_216 d216_44 (by decide) hk hj h1
theorem d216_45 : decode cX12_nearest 45 = .ok (.aload_n 0, 1) := by decide +kernel
theorem k216_45 {d x : Nat} {l1 l2 l3 : Option PV} {st : List PV} {M : Mem} {Q : Option PV → Mem → Prop} : WP d 216 45 [some (vr x), l1, l2, l3] (st) M Q = WP d 216 46 [some (vr x), l1, l2, l3] (vr x :: st) M Q := w1 mC_216 d216_45 rfl rfl
theorem d216_46 : decode cX12_nearest 46 = .ok (.getfield 9, 3) := by decide +kernel
theorem k216_46 {d : Nat} {l0 l1 l2 l3 : Option PV} {st : List PV} {M : Mem} {Q : Option PV → Mem → Prop} {r : Nat} (hk : mK M r = 12) : WP d 216 46 [l0, l1, l2, l3] (vr r :: st) M Q = WP d 216 49 [l0, l1, l2, l3] (vr (mR M r 2) :: st) M Q := w_getr mC_216 d216_46 fE_12_9 rfl (by rw [hk]; rfl)
theorem d216_49 : decode cX12_nearest 49 = .ok (.iload_n 2, 1) := by decide +kernel
theorem k216_49 {d : Nat} {x : Int32} {l0 l1 l3 : Option PV} {st : List PV} {M : Mem} {Q : Option PV → Mem → Prop} : WP d 216 49 [l0, l1, some (vi x), l3] (st) M Q = WP d 216 50 [l0, l1, some (vi x), l3] (vi x :: st) M Q := w1 mC_216 d216_49 rfl rfl
theorem d216_50 : decode cX12_nearest 50 = .ok (.iaload, 1) := by decide +kernel
theorem k216_50 {d : Nat} {l0 l1 l2 l3 : Option PV} {st : List PV} {M : Mem} {Q : Option PV → Mem → Prop} {r : Nat} {j : Int32} (hk : mK M r = 13) (hj : inb j (mN M r)) (h1 : r ≠ 1) : WP d 216 50 [l0, l1, l2, l3] (vi j :: vr r :: st) M Q = WP d 216 51 [l0, l1, l2, l3] (vi (mI M r (ix j)) :: st) M Q := w_iald mC_216 d216_50 (by decide) hk hj h1
theorem d216_51 : decode cX12_nearest 51 = .ok (.invokestatic 234, 3) := by decide +kernel
theorem k216_51 {d : Nat} {l0 l1 l2 l3 : Option PV} {st : List PV} {M : Mem} {Q : Option PV → Mem → Prop} {a0 a1 : Int32} (hl : szL st ≤ 8) : WP (d + 1) 216 51 [l0, l1, l2, l3] (vi a1 :: vi a0 :: st) M Q = WP d 180 0 [some (vi a0), some (vi a1)] [] M (fun v M' => WP (d + 1) 216 54 [l0, l1, l2, l3] (psh v st) M' Q) := w_callS mC_216 d216_51 rfl rfl (Nat.le_of_ble_eq_true rfl) (by decide) rfl hl
theorem d216_54 : decode cX12_nearest 54 = .ok (.if_icmp .ge 5, 3) := by decide +kernel
theorem k216_54 {d : Nat} {l0 l1 l2 l3 : Option PV} {st : List PV} {M : Mem} {Q : Option PV → Mem → Prop} {x y : Int32} : WP d 216 54 [l0, l1, l2, l3] (vi y :: vi x :: st) M Q = (if y ≤ x then WP d 216 59 [l0, l1, l2, l3] (st) M Q else WP d 216 57 [l0, l1, l2, l3] (st) M Q) := w_ic_ge mC_216 d216_54 (by decide)
theorem d216_57 : decode cX12_nearest 57 = .ok (.iload_n 3, 1) := by decide +kernel
theorem k216_57 {d : Nat} {x : Int32} {l0 l1 l2 : Option PV} {st : List PV} {M : Mem} {Q : Option PV → Mem → Prop} : WP d 216 57 [l0, l1, l2, some (vi x)] (st) M Q = WP d 216 58 [l0, l1, l2, some (vi x)] (vi x :: st) M Q := w1 mC_216 d216_57 rfl rfl
theorem d216_58 : decode cX12_nearest 58 = .ok (.istore_n 2, 1) := by decide +kernel
theorem k216_58 {d : Nat} {l0 l1 l2 l3 : Option PV} {st : List PV} {M : Mem} {Q : Option PV → Mem → Prop} {x : Int32} : WP d 216 58 [l0, l1, l2, l3] (vi x :: st) M Q = WP d 216 59 [l0, l1, some (vi x), l3] (st) M Q := w1 mC_216 d216_58 rfl rfl
theorem d216_59 : decode cX12_nearest 59 = .ok (.iinc 3 1, 3) := by decide +kernel
theorem k216_59 {d : Nat} {x : Int32} {l0 l1 l2 : Option PV} {st : List PV} {M : Mem} {Q : Option PV → Mem → Prop} : WP d 216 59 [l0, l1, l2, some (vi x)] (st) M Q = WP d 216 62 [l0, l1, l2, some (vi (x + 1))] (st) M Q := w_iinc mC_216 d216_59 rfl (by decide) rfl
theorem d216_62 : decode cX12_nearest 62 = .ok (.goto (-57), 3) := by decide +kernel
theorem k216_62 {d : Nat} {l0 l1 l2 l3 : Option PV} {st : List PV} {M : Mem} {Q : Option PV → Mem → Prop} : WP d 216 62 [l0, l1, l2, l3] (st) M Q = WP d 216 5 [l0, l1, l2, l3] (st) M Q := w_goto mC_216 d216_62 (by decide)
theorem d216_65 : decode cX12_nearest 65 = .ok (.iload_n 2, 1) := by decide +kernel
theorem k216_65 {d : Nat} {x : Int32} {l0 l1 l3 : Option PV} {st : List PV} {M : Mem} {Q : Option PV → Mem → Prop} : WP d 216 65 [l0, l1, some (vi x), l3] (st) M Q = WP d 216 66 [l0, l1, some (vi x), l3] (vi x :: st) M Q := w1 mC_216 d216_65 rfl rfl
theorem d216_66 : decode cX12_nearest 66 = .ok (.ireturn, 1) := by decide +kernel
theorem k216_66 {d : Nat} {l0 l1 l2 l3 : Option PV} {M : Mem} {Q : Option PV → Mem → Prop} {x : Int32} : WP d 216 66 [l0, l1, l2, l3] ([vi x]) M Q = Q (some (vi x)) M := w_iret mC_216 d216_66 rfl
theorem d217_0 : decode cX12_ring 0 = .ok (.aload_n 0, 1) := by decide +kernel
theorem k217_0 {d x : Nat} {l1 l2 l3 l4 : Option PV} {st : List PV} {M : Mem} {Q : Option PV → Mem → Prop} : WP d 217 0 [some (vr x), l1, l2, l3, l4] (st) M Q = WP d 217 1 [some (vr x), l1, l2, l3, l4] (vr x :: st) M Q := w1 mC_217 d217_0 rfl rfl
theorem d217_1 : decode cX12_ring 1 = .ok (.iload_n 1, 1) := by decide +kernel
theorem k217_1 {d : Nat} {x : Int32} {l0 l2 l3 l4 : Option PV} {st : List PV} {M : Mem} {Q : Option PV → Mem → Prop} : WP d 217 1 [l0, some (vi x), l2, l3, l4] (st) M Q = WP d 217 2 [l0, some (vi x), l2, l3, l4] (vi x :: st) M Q := w1 mC_217 d217_1 rfl rfl
theorem d217_2 : decode cX12_ring 2 = .ok (.invokevirtual 119, 3) := by decide +kernel
theorem k217_2 {d : Nat} {l0 l1 l2 l3 l4 : Option PV} {st : List PV} {M : Mem} {Q : Option PV → Mem → Prop} {a0 : Int32} {r : Nat} (hl : szL st ≤ 8) (hk : mK M r = 12) : WP (d + 1) 217 2 [l0, l1, l2, l3, l4] (vi a0 :: vr r :: st) M Q = WP d 146 0 [some (vr r), some (vi a0)] [] M (fun v M' => WP (d + 1) 217 5 [l0, l1, l2, l3, l4] (psh v st) M' Q) := w_callV mC_217 d217_2 (ci := 12) rfl rfl rfl (Nat.le_of_ble_eq_true rfl) (by decide) rfl hl hk
theorem d217_5 : decode cX12_ring 5 = .ok (.ifCond .ne 5, 3) := by decide +kernel
theorem k217_5 {d : Nat} {l0 l1 l2 l3 l4 : Option PV} {st : List PV} {M : Mem} {Q : Option PV → Mem → Prop} {x : Int32} : WP d 217 5 [l0, l1, l2, l3, l4] (vi x :: st) M Q = (if x = 0 then WP d 217 8 [l0, l1, l2, l3, l4] (st) M Q else WP d 217 10 [l0, l1, l2, l3, l4] (st) M Q) := w_if_ne mC_217 d217_5 (by decide)
theorem d217_8 : decode cX12_ring 8 = .ok (.iconst (-1), 1) := by decide +kernel
theorem k217_8 {d : Nat} {l0 l1 l2 l3 l4 : Option PV} {st : List PV} {M : Mem} {Q : Option PV → Mem → Prop} : WP d 217 8 [l0, l1, l2, l3, l4] (st) M Q = WP d 217 9 [l0, l1, l2, l3, l4] (vi (-1) :: st) M Q := w_iconst mC_217 d217_8 (by decide)
theorem d217_9 : decode cX12_ring 9 = .ok (.ireturn, 1) := by decide +kernel
theorem k217_9 {d : Nat} {l0 l1 l2 l3 l4 : Option PV} {M : Mem} {Q : Option PV → Mem → Prop} {x : Int32} : WP d 217 9 [l0, l1, l2, l3, l4] ([vi x]) M Q = Q (some (vi x)) M := w_iret mC_217 d217_9 rfl
theorem d217_10 : decode cX12_ring 10 = .ok (.aload_n 0, 1) := by decide +kernel
theorem k217_10 {d x : Nat} {l1 l2 l3 l4 : Option PV} {st : List PV} {M : Mem} {Q : Option PV → Mem → Prop} : WP d 217 10 [some (vr x), l1, l2, l3, l4] (st) M Q = WP d 217 11 [some (vr x), l1, l2, l3, l4] (vr x :: st) M Q := w1 mC_217 d217_10 rfl rfl
theorem d217_11 : decode cX12_ring 11 = .ok (.getfield 100, 3) := by decide +kernel
theorem k217_11 {d : Nat} {l0 l1 l2 l3 l4 : Option PV} {st : List PV} {M : Mem} {Q : Option PV → Mem → Prop} {r : Nat} (hk : mK M r = 12) : WP d 217 11 [l0, l1, l2, l3, l4] (vr r :: st) M Q = WP d 217 14 [l0, l1, l2, l3, l4] (vi (mI M r 0) :: st) M Q := w_get mC_217 d217_11 fE_12_100 rfl (by rw [hk]; rfl)
theorem d217_14 : decode cX12_ring 14 = .ok (.iconst 1, 1) := by decide +kernel
theorem k217_14 {d : Nat} {l0 l1 l2 l3 l4 : Option PV} {st : List PV} {M : Mem} {Q : Option PV → Mem → Prop} : WP d 217 14 [l0, l1, l2, l3, l4] (st) M Q = WP d 217 15 [l0, l1, l2, l3, l4] (vi 1 :: st) M Q := w_iconst mC_217 d217_14 (by decide)
theorem d217_15 : decode cX12_ring 15 = .ok (.if_icmp .ne 6, 3) := by decide +kernel
theorem k217_15 {d : Nat} {l0 l1 l2 l3 l4 : Option PV} {st : List PV} {M : Mem} {Q : Option PV → Mem → Prop} {x y : Int32} : WP d 217 15 [l0, l1, l2, l3, l4] (vi y :: vi x :: st) M Q = (if x = y then WP d 217 18 [l0, l1, l2, l3, l4] (st) M Q else WP d 217 21 [l0, l1, l2, l3, l4] (st) M Q) := w_ic_ne mC_217 d217_15 (by decide)
theorem d217_18 : decode cX12_ring 18 = .ok (.bipush (-2), 2) := by decide +kernel
theorem k217_18 {d : Nat} {l0 l1 l2 l3 l4 : Option PV} {st : List PV} {M : Mem} {Q : Option PV → Mem → Prop} : WP d 217 18 [l0, l1, l2, l3, l4] (st) M Q = WP d 217 20 [l0, l1, l2, l3, l4] (vi (-2) :: st) M Q := w_bipush mC_217 d217_18 (by decide)
theorem d217_20 : decode cX12_ring 20 = .ok (.ireturn, 1) := by decide +kernel
theorem k217_20 {d : Nat} {l0 l1 l2 l3 l4 : Option PV} {M : Mem} {Q : Option PV → Mem → Prop} {x : Int32} : WP d 217 20 [l0, l1, l2, l3, l4] ([vi x]) M Q = Q (some (vi x)) M := w_iret mC_217 d217_20 rfl
theorem d217_21 : decode cX12_ring 21 = .ok (.iload_n 1, 1) := by decide +kernel
theorem k217_21 {d : Nat} {x : Int32} {l0 l2 l3 l4 : Option PV} {st : List PV} {M : Mem} {Q : Option PV → Mem → Prop} : WP d 217 21 [l0, some (vi x), l2, l3, l4] (st) M Q = WP d 217 22 [l0, some (vi x), l2, l3, l4] (vi x :: st) M Q := w1 mC_217 d217_21 rfl rfl
theorem d217_22 : decode cX12_ring 22 = .ok (.istore_n 2, 1) := by decide +kernel
theorem k217_22 {d : Nat} {l0 l1 l2 l3 l4 : Option PV} {st : List PV} {M : Mem} {Q : Option PV → Mem → Prop} {x : Int32} : WP d 217 22 [l0, l1, l2, l3, l4] (vi x :: st) M Q = WP d 217 23 [l0, l1, some (vi x), l3, l4] (st) M Q := w1 mC_217 d217_22 rfl rfl
theorem d217_23 : decode cX12_ring 23 = .ok (.iconst 0, 1) := by decide +kernel
theorem k217_23 {d : Nat} {l0 l1 l2 l3 l4 : Option PV} {st : List PV} {M : Mem} {Q : Option PV → Mem → Prop} : WP d 217 23 [l0, l1, l2, l3, l4] (st) M Q = WP d 217 24 [l0, l1, l2, l3, l4] (vi 0 :: st) M Q := w_iconst mC_217 d217_23 (by decide)
theorem d217_24 : decode cX12_ring 24 = .ok (.istore_n 3, 1) := by decide +kernel
theorem k217_24 {d : Nat} {l0 l1 l2 l3 l4 : Option PV} {st : List PV} {M : Mem} {Q : Option PV → Mem → Prop} {x : Int32} : WP d 217 24 [l0, l1, l2, l3, l4] (vi x :: st) M Q = WP d 217 25 [l0, l1, l2, some (vi x), l4] (st) M Q := w1 mC_217 d217_24 rfl rfl
theorem d217_25 : decode cX12_ring 25 = .ok (.iload_n 3, 1) := by decide +kernel
theorem k217_25 {d : Nat} {x : Int32} {l0 l1 l2 l4 : Option PV} {st : List PV} {M : Mem} {Q : Option PV → Mem → Prop} : WP d 217 25 [l0, l1, l2, some (vi x), l4] (st) M Q = WP d 217 26 [l0, l1, l2, some (vi x), l4] (vi x :: st) M Q := w1 mC_217 d217_25 rfl rfl
theorem d217_26 : decode cX12_ring 26 = .ok (.aload_n 0, 1) := by decide +kernel
theorem k217_26 {d x : Nat} {l1 l2 l3 l4 : Option PV} {st : List PV} {M : Mem} {Q : Option PV → Mem → Prop} : WP d 217 26 [some (vr x), l1, l2, l3, l4] (st) M Q = WP d 217 27 [some (vr x), l1, l2, l3, l4] (vr x :: st) M Q := w1 mC_217 d217_26 rfl rfl
theorem d217_27 : decode cX12_ring 27 = .ok (.getfield 100, 3) := by decide +kernel
theorem k217_27 {d : Nat} {l0 l1 l2 l3 l4 : Option PV} {st : List PV} {M : Mem} {Q : Option PV → Mem → Prop} {r : Nat} (hk : mK M r = 12) : WP d 217 27 [l0, l1, l2, l3, l4] (vr r :: st) M Q = WP d 217 30 [l0, l1, l2, l3, l4] (vi (mI M r 0) :: st) M Q := w_get mC_217 d217_27 fE_12_100 rfl (by rw [hk]; rfl)
theorem d217_30 : decode cX12_ring 30 = .ok (.if_icmp .ge 15, 3) := by decide +kernel
theorem k217_30 {d : Nat} {l0 l1 l2 l3 l4 : Option PV} {st : List PV} {M : Mem} {Q : Option PV → Mem → Prop} {x y : Int32} : WP d 217 30 [l0, l1, l2, l3, l4] (vi y :: vi x :: st) M Q = (if y ≤ x then WP d 217 45 [l0, l1, l2, l3, l4] (st) M Q else WP d 217 33 [l0, l1, l2, l3, l4] (st) M Q) := w_ic_ge mC_217 d217_30 (by decide)
theorem d217_33 : decode cX12_ring 33 = .ok (.aload_n 0, 1) := by decide +kernel
theorem k217_33 {d x : Nat} {l1 l2 l3 l4 : Option PV} {st : List PV} {M : Mem} {Q : Option PV → Mem → Prop} : WP d 217 33 [some (vr x), l1, l2, l3, l4] (st) M Q = WP d 217 34 [some (vr x), l1, l2, l3, l4] (vr x :: st) M Q := w1 mC_217 d217_33 rfl rfl
theorem d217_34 : decode cX12_ring 34 = .ok (.iload_n 2, 1) := by decide +kernel
theorem k217_34 {d : Nat} {x : Int32} {l0 l1 l3 l4 : Option PV} {st : List PV} {M : Mem} {Q : Option PV → Mem → Prop} : WP d 217 34 [l0, l1, some (vi x), l3, l4] (st) M Q = WP d 217 35 [l0, l1, some (vi x), l3, l4] (vi x :: st) M Q := w1 mC_217 d217_34 rfl rfl
theorem d217_35 : decode cX12_ring 35 = .ok (.invokevirtual 322, 3) := by decide +kernel
theorem k217_35 {d : Nat} {l0 l1 l2 l3 l4 : Option PV} {st : List PV} {M : Mem} {Q : Option PV → Mem → Prop} {a0 : Int32} {r : Nat} (hl : szL st ≤ 8) (hk : mK M r = 12) : WP (d + 1) 217 35 [l0, l1, l2, l3, l4] (vi a0 :: vr r :: st) M Q = WP d 216 0 [some (vr r), some (vi a0), none, none] [] M (fun v M' => WP (d + 1) 217 38 [l0, l1, l2, l3, l4] (psh v st) M' Q) := w_callV mC_217 d217_35 (ci := 12) rfl rfl rfl (Nat.le_of_ble_eq_true rfl) (by decide) rfl hl hk
theorem d217_38 : decode cX12_ring 38 = .ok (.istore_n 2, 1) := by decide +kernel
theorem k217_38 {d : Nat} {l0 l1 l2 l3 l4 : Option PV} {st : List PV} {M : Mem} {Q : Option PV → Mem → Prop} {x : Int32} : WP d 217 38 [l0, l1, l2, l3, l4] (vi x :: st) M Q = WP d 217 39 [l0, l1, some (vi x), l3, l4] (st) M Q := w1 mC_217 d217_38 rfl rfl
theorem d217_39 : decode cX12_ring 39 = .ok (.iinc 3 1, 3) := by decide +kernel
theorem k217_39 {d : Nat} {x : Int32} {l0 l1 l2 l4 : Option PV} {st : List PV} {M : Mem} {Q : Option PV → Mem → Prop} : WP d 217 39 [l0, l1, l2, some (vi x), l4] (st) M Q = WP d 217 42 [l0, l1, l2, some (vi (x + 1)), l4] (st) M Q := w_iinc mC_217 d217_39 rfl (by decide) rfl
theorem d217_42 : decode cX12_ring 42 = .ok (.goto (-17), 3) := by decide +kernel
theorem k217_42 {d : Nat} {l0 l1 l2 l3 l4 : Option PV} {st : List PV} {M : Mem} {Q : Option PV → Mem → Prop} : WP d 217 42 [l0, l1, l2, l3, l4] (st) M Q = WP d 217 25 [l0, l1, l2, l3, l4] (st) M Q := w_goto mC_217 d217_42 (by decide)
theorem d217_45 : decode cX12_ring 45 = .ok (.iconst 1, 1) := by decide +kernel
theorem k217_45 {d : Nat} {l0 l1 l2 l3 l4 : Option PV} {st : List PV} {M : Mem} {Q : Option PV → Mem → Prop} : WP d 217 45 [l0, l1, l2, l3, l4] (st) M Q = WP d 217 46 [l0, l1, l2, l3, l4] (vi 1 :: st) M Q := w_iconst mC_217 d217_45 (by decide)
theorem d217_46 : decode cX12_ring 46 = .ok (.istore_n 3, 1) := by decide +kernel
theorem k217_46 {d : Nat} {l0 l1 l2 l3 l4 : Option PV} {st : List PV} {M : Mem} {Q : Option PV → Mem → Prop} {x : Int32} : WP d 217 46 [l0, l1, l2, l3, l4] (vi x :: st) M Q = WP d 217 47 [l0, l1, l2, some (vi x), l4] (st) M Q := w1 mC_217 d217_46 rfl rfl
theorem d217_47 : decode cX12_ring 47 = .ok (.aload_n 0, 1) := by decide +kernel
theorem k217_47 {d x : Nat} {l1 l2 l3 l4 : Option PV} {st : List PV} {M : Mem} {Q : Option PV → Mem → Prop} : WP d 217 47 [some (vr x), l1, l2, l3, l4] (st) M Q = WP d 217 48 [some (vr x), l1, l2, l3, l4] (vr x :: st) M Q := w1 mC_217 d217_47 rfl rfl
theorem d217_48 : decode cX12_ring 48 = .ok (.iload_n 2, 1) := by decide +kernel
theorem k217_48 {d : Nat} {x : Int32} {l0 l1 l3 l4 : Option PV} {st : List PV} {M : Mem} {Q : Option PV → Mem → Prop} : WP d 217 48 [l0, l1, some (vi x), l3, l4] (st) M Q = WP d 217 49 [l0, l1, some (vi x), l3, l4] (vi x :: st) M Q := w1 mC_217 d217_48 rfl rfl
theorem d217_49 : decode cX12_ring 49 = .ok (.invokevirtual 322, 3) := by decide +kernel
theorem k217_49 {d : Nat} {l0 l1 l2 l3 l4 : Option PV} {st : List PV} {M : Mem} {Q : Option PV → Mem → Prop} {a0 : Int32} {r : Nat} (hl : szL st ≤ 8) (hk : mK M r = 12) : WP (d + 1) 217 49 [l0, l1, l2, l3, l4] (vi a0 :: vr r :: st) M Q = WP d 216 0 [some (vr r), some (vi a0), none, none] [] M (fun v M' => WP (d + 1) 217 52 [l0, l1, l2, l3, l4] (psh v st) M' Q) := w_callV mC_217 d217_49 (ci := 12) rfl rfl rfl (Nat.le_of_ble_eq_true rfl) (by decide) rfl hl hk
theorem d217_52 : decode cX12_ring 52 = .ok (.istore 4, 2) := by decide +kernel
theorem k217_52 {d : Nat} {l0 l1 l2 l3 l4 : Option PV} {st : List PV} {M : Mem} {Q : Option PV → Mem → Prop} {x : Int32} : WP d 217 52 [l0, l1, l2, l3, l4] (vi x :: st) M Q = WP d 217 54 [l0, l1, l2, l3, some (vi x)] (st) M Q := w1 mC_217 d217_52 rfl rfl
theorem d217_54 : decode cX12_ring 54 = .ok (.iload 4, 2) := by decide +kernel
theorem k217_54 {d : Nat} {x : Int32} {l0 l1 l2 l3 : Option PV} {st : List PV} {M : Mem} {Q : Option PV → Mem → Prop} : WP d 217 54 [l0, l1, l2, l3, some (vi x)] (st) M Q = WP d 217 56 [l0, l1, l2, l3, some (vi x)] (vi x :: st) M Q := w1 mC_217 d217_54 rfl rfl
theorem d217_56 : decode cX12_ring 56 = .ok (.iload_n 2, 1) := by decide +kernel
theorem k217_56 {d : Nat} {x : Int32} {l0 l1 l3 l4 : Option PV} {st : List PV} {M : Mem} {Q : Option PV → Mem → Prop} : WP d 217 56 [l0, l1, some (vi x), l3, l4] (st) M Q = WP d 217 57 [l0, l1, some (vi x), l3, l4] (vi x :: st) M Q := w1 mC_217 d217_56 rfl rfl
theorem d217_57 : decode cX12_ring 57 = .ok (.if_icmp .eq 17, 3) := by decide +kernel
theorem k217_57 {d : Nat} {l0 l1 l2 l3 l4 : Option PV} {st : List PV} {M : Mem} {Q : Option PV → Mem → Prop} {x y : Int32} : WP d 217 57 [l0, l1, l2, l3, l4] (vi y :: vi x :: st) M Q = (if x = y then WP d 217 74 [l0, l1, l2, l3, l4] (st) M Q else WP d 217 60 [l0, l1, l2, l3, l4] (st) M Q) := w_ic_eq mC_217 d217_57 (by decide)
theorem d217_60 : decode cX12_ring 60 = .ok (.iinc 3 1, 3) := by decide +kernel
theorem k217_60 {d : Nat} {x : Int32} {l0 l1 l2 l4 : Option PV} {st : List PV} {M : Mem} {Q : Option PV → Mem → Prop} : WP d 217 60 [l0, l1, l2, some (vi x), l4] (st) M Q = WP d 217 63 [l0, l1, l2, some (vi (x + 1)), l4] (st) M Q := w_iinc mC_217 d217_60 rfl (by decide) rfl
theorem d217_63 : decode cX12_ring 63 = .ok (.aload_n 0, 1) := by decide +kernel
theorem k217_63 {d x : Nat} {l1 l2 l3 l4 : Option PV} {st : List PV} {M : Mem} {Q : Option PV → Mem → Prop} : WP d 217 63 [some (vr x), l1, l2, l3, l4] (st) M Q = WP d 217 64 [some (vr x), l1, l2, l3, l4] (vr x :: st) M Q := w1 mC_217 d217_63 rfl rfl
theorem d217_64 : decode cX12_ring 64 = .ok (.iload 4, 2) := by decide +kernel
theorem k217_64 {d : Nat} {x : Int32} {l0 l1 l2 l3 : Option PV} {st : List PV} {M : Mem} {Q : Option PV → Mem → Prop} : WP d 217 64 [l0, l1, l2, l3, some (vi x)] (st) M Q = WP d 217 66 [l0, l1, l2, l3, some (vi x)] (vi x :: st) M Q := w1 mC_217 d217_64 rfl rfl
theorem d217_66 : decode cX12_ring 66 = .ok (.invokevirtual 322, 3) := by decide +kernel
theorem k217_66 {d : Nat} {l0 l1 l2 l3 l4 : Option PV} {st : List PV} {M : Mem} {Q : Option PV → Mem → Prop} {a0 : Int32} {r : Nat} (hl : szL st ≤ 8) (hk : mK M r = 12) : WP (d + 1) 217 66 [l0, l1, l2, l3, l4] (vi a0 :: vr r :: st) M Q = WP d 216 0 [some (vr r), some (vi a0), none, none] [] M (fun v M' => WP (d + 1) 217 69 [l0, l1, l2, l3, l4] (psh v st) M' Q) := w_callV mC_217 d217_66 (ci := 12) rfl rfl rfl (Nat.le_of_ble_eq_true rfl) (by decide) rfl hl hk
theorem d217_69 : decode cX12_ring 69 = .ok (.istore 4, 2) := by decide +kernel
theorem k217_69 {d : Nat} {l0 l1 l2 l3 l4 : Option PV} {st : List PV} {M : Mem} {Q : Option PV → Mem → Prop} {x : Int32} : WP d 217 69 [l0, l1, l2, l3, l4] (vi x :: st) M Q = WP d 217 71 [l0, l1, l2, l3, some (vi x)] (st) M Q := w1 mC_217 d217_69 rfl rfl
theorem d217_71 : decode cX12_ring 71 = .ok (.goto (-17), 3) := by decide +kernel
theorem k217_71 {d : Nat} {l0 l1 l2 l3 l4 : Option PV} {st : List PV} {M : Mem} {Q : Option PV → Mem → Prop} : WP d 217 71 [l0, l1, l2, l3, l4] (st) M Q = WP d 217 54 [l0, l1, l2, l3, l4] (st) M Q := w_goto mC_217 d217_71 (by decide)
theorem d217_74 : decode cX12_ring 74 = .ok (.iload_n 3, 1) := by decide +kernel
theorem k217_74 {d : Nat} {x : Int32} {l0 l1 l2 l4 : Option PV} {st : List PV} {M : Mem} {Q : Option PV → Mem → Prop} : WP d 217 74 [l0, l1, l2, some (vi x), l4] (st) M Q = WP d 217 75 [l0, l1, l2, some (vi x), l4] (vi x :: st) M Q := w1 mC_217 d217_74 rfl rfl
theorem d217_75 : decode cX12_ring 75 = .ok (.ireturn, 1) := by decide +kernel
theorem k217_75 {d : Nat} {l0 l1 l2 l3 l4 : Option PV} {M : Mem} {Q : Option PV → Mem → Prop} {x : Int32} : WP d 217 75 [l0, l1, l2, l3, l4] ([vi x]) M Q = Q (some (vi x)) M := w_iret mC_217 d217_75 rfl
theorem d218_0 : decode cX12_turnFrom 0 = .ok (.iload_n 1, 1) := by decide +kernel
theorem k218_0 {d : Nat} {x : Int32} {l0 l2 l3 l4 l5 : Option PV} {st : List PV} {M : Mem} {Q : Option PV → Mem → Prop} : WP d 218 0 [l0, some (vi x), l2, l3, l4, l5] (st) M Q = WP d 218 1 [l0, some (vi x), l2, l3, l4, l5] (vi x :: st) M Q := w1 mC_218 d218_0 rfl rfl
theorem d218_1 : decode cX12_turnFrom 1 = .ok (.iload_n 2, 1) := by decide +kernel
theorem k218_1 {d : Nat} {x : Int32} {l0 l1 l3 l4 l5 : Option PV} {st : List PV} {M : Mem} {Q : Option PV → Mem → Prop} : WP d 218 1 [l0, l1, some (vi x), l3, l4, l5] (st) M Q = WP d 218 2 [l0, l1, some (vi x), l3, l4, l5] (vi x :: st) M Q := w1 mC_218 d218_1 rfl rfl
theorem d218_2 : decode cX12_turnFrom 2 = .ok (.if_icmp .ne 19, 3) := by decide +kernel
theorem k218_2 {d : Nat} {l0 l1 l2 l3 l4 l5 : Option PV} {st : List PV} {M : Mem} {Q : Option PV → Mem → Prop} {x y : Int32} : WP d 218 2 [l0, l1, l2, l3, l4, l5] (vi y :: vi x :: st) M Q = (if x = y then WP d 218 5 [l0, l1, l2, l3, l4, l5] (st) M Q else WP d 218 21 [l0, l1, l2, l3, l4, l5] (st) M Q) := w_ic_ne mC_218 d218_2 (by decide)
theorem d218_5 : decode cX12_turnFrom 5 = .ok (.aload_n 0, 1) := by decide +kernel
theorem k218_5 {d x : Nat} {l1 l2 l3 l4 l5 : Option PV} {st : List PV} {M : Mem} {Q : Option PV → Mem → Prop} : WP d 218 5 [some (vr x), l1, l2, l3, l4, l5] (st) M Q = WP d 218 6 [some (vr x), l1, l2, l3, l4, l5] (vr x :: st) M Q := w1 mC_218 d218_5 rfl rfl
theorem d218_6 : decode cX12_turnFrom 6 = .ok (.iload_n 3, 1) := by decide +kernel
theorem k218_6 {d : Nat} {x : Int32} {l0 l1 l2 l4 l5 : Option PV} {st : List PV} {M : Mem} {Q : Option PV → Mem → Prop} : WP d 218 6 [l0, l1, l2, some (vi x), l4, l5] (st) M Q = WP d 218 7 [l0, l1, l2, some (vi x), l4, l5] (vi x :: st) M Q := w1 mC_218 d218_6 rfl rfl
theorem d218_7 : decode cX12_turnFrom 7 = .ok (.invokevirtual 287, 3) := by decide +kernel
theorem k218_7 {d : Nat} {l0 l1 l2 l3 l4 l5 : Option PV} {st : List PV} {M : Mem} {Q : Option PV → Mem → Prop} {a0 : Int32} {r : Nat} (hl : szL st ≤ 8) (hk : mK M r = 12) : WP (d + 1) 218 7 [l0, l1, l2, l3, l4, l5] (vi a0 :: vr r :: st) M Q = WP d 198 0 [some (vr r), some (vi a0), none] [] M (fun v M' => WP (d + 1) 218 10 [l0, l1, l2, l3, l4, l5] (psh v st) M' Q) := w_callV mC_218 d218_7 (ci := 12) rfl rfl rfl (Nat.le_of_ble_eq_true rfl) (by decide) rfl hl hk
theorem d218_10 : decode cX12_turnFrom 10 = .ok (.iconst 0, 1) := by decide +kernel
theorem k218_10 {d : Nat} {l0 l1 l2 l3 l4 l5 : Option PV} {st : List PV} {M : Mem} {Q : Option PV → Mem → Prop} : WP d 218 10 [l0, l1, l2, l3, l4, l5] (st) M Q = WP d 218 11 [l0, l1, l2, l3, l4, l5] (vi 0 :: st) M Q := w_iconst mC_218 d218_10 (by decide)
theorem d218_11 : decode cX12_turnFrom 11 = .ok (.aload_n 0, 1) := by decide +kernel
theorem k218_11 {d x : Nat} {l1 l2 l3 l4 l5 : Option PV} {st : List PV} {M : Mem} {Q : Option PV → Mem → Prop} : WP d 218 11 [some (vr x), l1, l2, l3, l4, l5] (st) M Q = WP d 218 12 [some (vr x), l1, l2, l3, l4, l5] (vr x :: st) M Q := w1 mC_218 d218_11 rfl rfl
theorem d218_12 : decode cX12_turnFrom 12 = .ok (.getfield 85, 3) := by decide +kernel
theorem k218_12 {d : Nat} {l0 l1 l2 l3 l4 l5 : Option PV} {st : List PV} {M : Mem} {Q : Option PV → Mem → Prop} {r : Nat} (hk : mK M r = 12) : WP d 218 12 [l0, l1, l2, l3, l4, l5] (vr r :: st) M Q = WP d 218 15 [l0, l1, l2, l3, l4, l5] (vr (mR M r 42) :: st) M Q := w_getr mC_218 d218_12 fE_12_85 rfl (by rw [hk]; rfl)
theorem d218_15 : decode cX12_turnFrom 15 = .ok (.iconst 0, 1) := by decide +kernel
theorem k218_15 {d : Nat} {l0 l1 l2 l3 l4 l5 : Option PV} {st : List PV} {M : Mem} {Q : Option PV → Mem → Prop} : WP d 218 15 [l0, l1, l2, l3, l4, l5] (st) M Q = WP d 218 16 [l0, l1, l2, l3, l4, l5] (vi 0 :: st) M Q := w_iconst mC_218 d218_15 (by decide)
theorem d218_16 : decode cX12_turnFrom 16 = .ok (.iaload, 1) := by decide +kernel
theorem k218_16 {d : Nat} {l0 l1 l2 l3 l4 l5 : Option PV} {st : List PV} {M : Mem} {Q : Option PV → Mem → Prop} {r : Nat} {j : Int32} (hk : mK M r = 13) (hj : inb j (mN M r)) (h1 : r ≠ 1) : WP d 218 16 [l0, l1, l2, l3, l4, l5] (vi j :: vr r :: st) M Q = WP d 218 17 [l0, l1, l2, l3, l4, l5] (vi (mI M r (ix j)) :: st) M Q := w_iald mC_218 d218_16 (by decide) hk hj h1
theorem d218_17 : decode cX12_turnFrom 17 = .ok (.invokestatic 246, 3) := by decide +kernel
theorem k218_17 {d : Nat} {l0 l1 l2 l3 l4 l5 : Option PV} {st : List PV} {M : Mem} {Q : Option PV → Mem → Prop} {x y : Int32} (hl : szL st ≤ 8) : WP d 218 17 [l0, l1, l2, l3, l4, l5] (vi y :: vi x :: st) M Q = WP d 218 20 [l0, l1, l2, l3, l4, l5] (vi (if x < y then y else x) :: st) M Q := w_max mC_218 d218_17 rfl rfl rfl hl
theorem d218_20 : decode cX12_turnFrom 20 = .ok (.ireturn, 1) := by decide +kernel
theorem k218_20 {d : Nat} {l0 l1 l2 l3 l4 l5 : Option PV} {M : Mem} {Q : Option PV → Mem → Prop} {x : Int32} : WP d 218 20 [l0, l1, l2, l3, l4, l5] ([vi x]) M Q = Q (some (vi x)) M := w_iret mC_218 d218_20 rfl
theorem d218_21 : decode cX12_turnFrom 21 = .ok (.aload_n 0, 1) := by decide +kernel
theorem k218_21 {d x : Nat} {l1 l2 l3 l4 l5 : Option PV} {st : List PV} {M : Mem} {Q : Option PV → Mem → Prop} : WP d 218 21 [some (vr x), l1, l2, l3, l4, l5] (st) M Q = WP d 218 22 [some (vr x), l1, l2, l3, l4, l5] (vr x :: st) M Q := w1 mC_218 d218_21 rfl rfl
theorem d218_22 : decode cX12_turnFrom 22 = .ok (.iload_n 1, 1) := by decide +kernel
theorem k218_22 {d : Nat} {x : Int32} {l0 l2 l3 l4 l5 : Option PV} {st : List PV} {M : Mem} {Q : Option PV → Mem → Prop} : WP d 218 22 [l0, some (vi x), l2, l3, l4, l5] (st) M Q = WP d 218 23 [l0, some (vi x), l2, l3, l4, l5] (vi x :: st) M Q := w1 mC_218 d218_22 rfl rfl
theorem d218_23 : decode cX12_turnFrom 23 = .ok (.iconst 1, 1) := by decide +kernel
theorem k218_23 {d : Nat} {l0 l1 l2 l3 l4 l5 : Option PV} {st : List PV} {M : Mem} {Q : Option PV → Mem → Prop} : WP d 218 23 [l0, l1, l2, l3, l4, l5] (st) M Q = WP d 218 24 [l0, l1, l2, l3, l4, l5] (vi 1 :: st) M Q := w_iconst mC_218 d218_23 (by decide)
theorem d218_24 : decode cX12_turnFrom 24 = .ok (.iadd, 1) := by decide +kernel
theorem k218_24 {d : Nat} {l0 l1 l2 l3 l4 l5 : Option PV} {st : List PV} {M : Mem} {Q : Option PV → Mem → Prop} {x y : Int32} : WP d 218 24 [l0, l1, l2, l3, l4, l5] (vi y :: vi x :: st) M Q = WP d 218 25 [l0, l1, l2, l3, l4, l5] (vi (x + y) :: st) M Q := w1 mC_218 d218_24 rfl rfl
theorem d218_25 : decode cX12_turnFrom 25 = .ok (.iload_n 2, 1) := by decide +kernel
theorem k218_25 {d : Nat} {x : Int32} {l0 l1 l3 l4 l5 : Option PV} {st : List PV} {M : Mem} {Q : Option PV → Mem → Prop} : WP d 218 25 [l0, l1, some (vi x), l3, l4, l5] (st) M Q = WP d 218 26 [l0, l1, some (vi x), l3, l4, l5] (vi x :: st) M Q := w1 mC_218 d218_25 rfl rfl
theorem d218_26 : decode cX12_turnFrom 26 = .ok (.iload_n 3, 1) := by decide +kernel
theorem k218_26 {d : Nat} {x : Int32} {l0 l1 l2 l4 l5 : Option PV} {st : List PV} {M : Mem} {Q : Option PV → Mem → Prop} : WP d 218 26 [l0, l1, l2, some (vi x), l4, l5] (st) M Q = WP d 218 27 [l0, l1, l2, some (vi x), l4, l5] (vi x :: st) M Q := w1 mC_218 d218_26 rfl rfl
theorem d218_27 : decode cX12_turnFrom 27 = .ok (.invokevirtual 325, 3) := by decide +kernel
theorem k218_27 {d : Nat} {l0 l1 l2 l3 l4 l5 : Option PV} {st : List PV} {M : Mem} {Q : Option PV → Mem → Prop} {a0 a1 a2 : Int32} {r : Nat} (hl : szL st ≤ 8) (hk : mK M r = 12) : WP (d + 1) 218 27 [l0, l1, l2, l3, l4, l5] (vi a2 :: vi a1 :: vi a0 :: vr r :: st) M Q = WP d 218 0 [some (vr r), some (vi a0), some (vi a1), some (vi a2), none, none] [] M (fun v M' => WP (d + 1) 218 30 [l0, l1, l2, l3, l4, l5] (psh v st) M' Q) := w_callV mC_218 d218_27 (ci := 12) rfl rfl rfl (Nat.le_of_ble_eq_true rfl) (by decide) rfl hl hk
theorem d218_30 : decode cX12_turnFrom 30 = .ok (.istore 4, 2) := by decide +kernel
theorem k218_30 {d : Nat} {l0 l1 l2 l3 l4 l5 : Option PV} {st : List PV} {M : Mem} {Q : Option PV → Mem → Prop} {x : Int32} : WP d 218 30 [l0, l1, l2, l3, l4, l5] (vi x :: st) M Q = WP d 218 32 [l0, l1, l2, l3, some (vi x), l5] (st) M Q := w1 mC_218 d218_30 rfl rfl
theorem d218_32 : decode cX12_turnFrom 32 = .ok (.aload_n 0, 1) := by decide +kernel
theorem k218_32 {d x : Nat} {l1 l2 l3 l4 l5 : Option PV} {st : List PV} {M : Mem} {Q : Option PV → Mem → Prop} : WP d 218 32 [some (vr x), l1, l2, l3, l4, l5] (st) M Q = WP d 218 33 [some (vr x), l1, l2, l3, l4, l5] (vr x :: st) M Q := w1 mC_218 d218_32 rfl rfl
theorem d218_33 : decode cX12_turnFrom 33 = .ok (.iload_n 1, 1) := by decide +kernel
theorem k218_33 {d : Nat} {x : Int32} {l0 l2 l3 l4 l5 : Option PV} {st : List PV} {M : Mem} {Q : Option PV → Mem → Prop} : WP d 218 33 [l0, some (vi x), l2, l3, l4, l5] (st) M Q = WP d 218 34 [l0, some (vi x), l2, l3, l4, l5] (vi x :: st) M Q := w1 mC_218 d218_33 rfl rfl
theorem d218_34 : decode cX12_turnFrom 34 = .ok (.iload_n 2, 1) := by decide +kernel
theorem k218_34 {d : Nat} {x : Int32} {l0 l1 l3 l4 l5 : Option PV} {st : List PV} {M : Mem} {Q : Option PV → Mem → Prop} : WP d 218 34 [l0, l1, some (vi x), l3, l4, l5] (st) M Q = WP d 218 35 [l0, l1, some (vi x), l3, l4, l5] (vi x :: st) M Q := w1 mC_218 d218_34 rfl rfl
theorem d218_35 : decode cX12_turnFrom 35 = .ok (.iload_n 3, 1) := by decide +kernel
theorem k218_35 {d : Nat} {x : Int32} {l0 l1 l2 l4 l5 : Option PV} {st : List PV} {M : Mem} {Q : Option PV → Mem → Prop} : WP d 218 35 [l0, l1, l2, some (vi x), l4, l5] (st) M Q = WP d 218 36 [l0, l1, l2, some (vi x), l4, l5] (vi x :: st) M Q := w1 mC_218 d218_35 rfl rfl
theorem d218_36 : decode cX12_turnFrom 36 = .ok (.invokevirtual 328, 3) := by decide +kernel
theorem k218_36 {d : Nat} {l0 l1 l2 l3 l4 l5 : Option PV} {st : List PV} {M : Mem} {Q : Option PV → Mem → Prop} {a0 a1 a2 : Int32} {r : Nat} (hl : szL st ≤ 8) (hk : mK M r = 12) : WP (d + 1) 218 36 [l0, l1, l2, l3, l4, l5] (vi a2 :: vi a1 :: vi a0 :: vr r :: st) M Q = WP d 219 0 [some (vr r), some (vi a0), some (vi a1), some (vi a2), none, none, none] [] M (fun v M' => WP (d + 1) 218 39 [l0, l1, l2, l3, l4, l5] (psh v st) M' Q) := w_callV mC_218 d218_36 (ci := 12) rfl rfl rfl (Nat.le_of_ble_eq_true rfl) (by decide) rfl hl hk
theorem d218_39 : decode cX12_turnFrom 39 = .ok (.istore 5, 2) := by decide +kernel
theorem k218_39 {d : Nat} {l0 l1 l2 l3 l4 l5 : Option PV} {st : List PV} {M : Mem} {Q : Option PV → Mem → Prop} {x : Int32} : WP d 218 39 [l0, l1, l2, l3, l4, l5] (vi x :: st) M Q = WP d 218 41 [l0, l1, l2, l3, l4, some (vi x)] (st) M Q := w1 mC_218 d218_39 rfl rfl
theorem d218_41 : decode cX12_turnFrom 41 = .ok (.iload_n 1, 1) := by decide +kernel
theorem k218_41 {d : Nat} {x : Int32} {l0 l2 l3 l4 l5 : Option PV} {st : List PV} {M : Mem} {Q : Option PV → Mem → Prop} : WP d 218 41 [l0, some (vi x), l2, l3, l4, l5] (st) M Q = WP d 218 42 [l0, some (vi x), l2, l3, l4, l5] (vi x :: st) M Q := w1 mC_218 d218_41 rfl rfl
theorem d218_42 : decode cX12_turnFrom 42 = .ok (.iconst 2, 1) := by decide +kernel
theorem k218_42 {d : Nat} {l0 l1 l2 l3 l4 l5 : Option PV} {st : List PV} {M : Mem} {Q : Option PV → Mem → Prop} : WP d 218 42 [l0, l1, l2, l3, l4, l5] (st) M Q = WP d 218 43 [l0, l1, l2, l3, l4, l5] (vi 2 :: st) M Q := w_iconst mC_218 d218_42 (by decide)
theorem d218_43 : decode cX12_turnFrom 43 = .ok (.irem, 1) := by decide +kernel
theorem k218_43 {d : Nat} {l0 l1 l2 l3 l4 l5 : Option PV} {st : List PV} {M : Mem} {Q : Option PV → Mem → Prop} {x y : Int32} (h : y ≠ 0) : WP d 218 43 [l0, l1, l2, l3, l4, l5] (vi y :: vi x :: st) M Q = WP d 218 44 [l0, l1, l2, l3, l4, l5] (vi (x % y) :: st) M Q := w_rem mC_218 d218_43 h
theorem d218_44 : decode cX12_turnFrom 44 = .ok (.ifCond .ne 13, 3) := by decide +kernel
theorem k218_44 {d : Nat} {l0 l1 l2 l3 l4 l5 : Option PV} {st : List PV} {M : Mem} {Q : Option PV → Mem → Prop} {x : Int32} : WP d 218 44 [l0, l1, l2, l3, l4, l5] (vi x :: st) M Q = (if x = 0 then WP d 218 47 [l0, l1, l2, l3, l4, l5] (st) M Q else WP d 218 57 [l0, l1, l2, l3, l4, l5] (st) M Q) := w_if_ne mC_218 d218_44 (by decide)
theorem d218_47 : decode cX12_turnFrom 47 = .ok (.iload 4, 2) := by decide +kernel
theorem k218_47 {d : Nat} {x : Int32} {l0 l1 l2 l3 l5 : Option PV} {st : List PV} {M : Mem} {Q : Option PV → Mem → Prop} : WP d 218 47 [l0, l1, l2, l3, some (vi x), l5] (st) M Q = WP d 218 49 [l0, l1, l2, l3, some (vi x), l5] (vi x :: st) M Q := w1 mC_218 d218_47 rfl rfl
theorem d218_49 : decode cX12_turnFrom 49 = .ok (.iload 5, 2) := by decide +kernel
theorem k218_49 {d : Nat} {x : Int32} {l0 l1 l2 l3 l4 : Option PV} {st : List PV} {M : Mem} {Q : Option PV → Mem → Prop} : WP d 218 49 [l0, l1, l2, l3, l4, some (vi x)] (st) M Q = WP d 218 51 [l0, l1, l2, l3, l4, some (vi x)] (vi x :: st) M Q := w1 mC_218 d218_49 rfl rfl
theorem d218_51 : decode cX12_turnFrom 51 = .ok (.invokestatic 246, 3) := by decide +kernel
theorem k218_51 {d : Nat} {l0 l1 l2 l3 l4 l5 : Option PV} {st : List PV} {M : Mem} {Q : Option PV → Mem → Prop} {x y : Int32} (hl : szL st ≤ 8) : WP d 218 51 [l0, l1, l2, l3, l4, l5] (vi y :: vi x :: st) M Q = WP d 218 54 [l0, l1, l2, l3, l4, l5] (vi (if x < y then y else x) :: st) M Q := w_max mC_218 d218_51 rfl rfl rfl hl
theorem d218_54 : decode cX12_turnFrom 54 = .ok (.goto 10, 3) := by decide +kernel
theorem k218_54 {d : Nat} {l0 l1 l2 l3 l4 l5 : Option PV} {st : List PV} {M : Mem} {Q : Option PV → Mem → Prop} : WP d 218 54 [l0, l1, l2, l3, l4, l5] (st) M Q = WP d 218 64 [l0, l1, l2, l3, l4, l5] (st) M Q := w_goto mC_218 d218_54 (by decide)
theorem d218_57 : decode cX12_turnFrom 57 = .ok (.iload 4, 2) := by decide +kernel
theorem k218_57 {d : Nat} {x : Int32} {l0 l1 l2 l3 l5 : Option PV} {st : List PV} {M : Mem} {Q : Option PV → Mem → Prop} : WP d 218 57 [l0, l1, l2, l3, some (vi x), l5] (st) M Q = WP d 218 59 [l0, l1, l2, l3, some (vi x), l5] (vi x :: st) M Q := w1 mC_218 d218_57 rfl rfl
theorem d218_59 : decode cX12_turnFrom 59 = .ok (.iload 5, 2) := by decide +kernel
theorem k218_59 {d : Nat} {x : Int32} {l0 l1 l2 l3 l4 : Option PV} {st : List PV} {M : Mem} {Q : Option PV → Mem → Prop} : WP d 218 59 [l0, l1, l2, l3, l4, some (vi x)] (st) M Q = WP d 218 61 [l0, l1, l2, l3, l4, some (vi x)] (vi x :: st) M Q := w1 mC_218 d218_59 rfl rfl
theorem d218_61 : decode cX12_turnFrom 61 = .ok (.invokestatic 243, 3) := by decide +kernel
theorem k218_61 {d : Nat} {l0 l1 l2 l3 l4 l5 : Option PV} {st : List PV} {M : Mem} {Q : Option PV → Mem → Prop} {x y : Int32} (hl : szL st ≤ 8) : WP d 218 61 [l0, l1, l2, l3, l4, l5] (vi y :: vi x :: st) M Q = WP d 218 64 [l0, l1, l2, l3, l4, l5] (vi (if y < x then y else x) :: st) M Q := w_min mC_218 d218_61 rfl rfl rfl hl
theorem d218_64 : decode cX12_turnFrom 64 = .ok (.ireturn, 1) := by decide +kernel
theorem k218_64 {d : Nat} {l0 l1 l2 l3 l4 l5 : Option PV} {M : Mem} {Q : Option PV → Mem → Prop} {x : Int32} : WP d 218 64 [l0, l1, l2, l3, l4, l5] ([vi x]) M Q = Q (some (vi x)) M := w_iret mC_218 d218_64 rfl
theorem d219_0 : decode cX12_turnBy 0 = .ok (.aload_n 0, 1) := by decide +kernel
theorem k219_0 {d x : Nat} {l1 l2 l3 l4 l5 l6 : Option PV} {st : List PV} {M : Mem} {Q : Option PV → Mem → Prop} : WP d 219 0 [some (vr x), l1, l2, l3, l4, l5, l6] (st) M Q = WP d 219 1 [some (vr x), l1, l2, l3, l4, l5, l6] (vr x :: st) M Q := w1 mC_219 d219_0 rfl rfl
theorem d219_1 : decode cX12_turnBy 1 = .ok (.getfield 15, 3) := by decide +kernel
theorem k219_1 {d : Nat} {l0 l1 l2 l3 l4 l5 l6 : Option PV} {st : List PV} {M : Mem} {Q : Option PV → Mem → Prop} {r : Nat} (hk : mK M r = 12) : WP d 219 1 [l0, l1, l2, l3, l4, l5, l6] (vr r :: st) M Q = WP d 219 4 [l0, l1, l2, l3, l4, l5, l6] (vr (mR M r 3) :: st) M Q := w_getr mC_219 d219_1 fE_12_15 rfl (by rw [hk]; rfl)
theorem d219_4 : decode cX12_turnBy 4 = .ok (.iconst 0, 1) := by decide +kernel
theorem k219_4 {d : Nat} {l0 l1 l2 l3 l4 l5 l6 : Option PV} {st : List PV} {M : Mem} {Q : Option PV → Mem → Prop} : WP d 219 4 [l0, l1, l2, l3, l4, l5, l6] (st) M Q = WP d 219 5 [l0, l1, l2, l3, l4, l5, l6] (vi 0 :: st) M Q := w_iconst mC_219 d219_4 (by decide)
theorem d219_5 : decode cX12_turnBy 5 = .ok (.iaload, 1) := by decide +kernel
theorem k219_5 {d : Nat} {l0 l1 l2 l3 l4 l5 l6 : Option PV} {st : List PV} {M : Mem} {Q : Option PV → Mem → Prop} {r : Nat} {j : Int32} (hk : mK M r = 13) (hj : inb j (mN M r)) (h1 : r ≠ 1) : WP d 219 5 [l0, l1, l2, l3, l4, l5, l6] (vi j :: vr r :: st) M Q = WP d 219 6 [l0, l1, l2, l3, l4, l5, l6] (vi (mI M r (ix j)) :: st) M Q := w_iald mC_219 d219_5 (by decide) hk hj h1
theorem d219_6 : decode cX12_turnBy 6 = .ok (.istore 4, 2) := by decide +kernel
theorem k219_6 {d : Nat} {l0 l1 l2 l3 l4 l5 l6 : Option PV} {st : List PV} {M : Mem} {Q : Option PV → Mem → Prop} {x : Int32} : WP d 219 6 [l0, l1, l2, l3, l4, l5, l6] (vi x :: st) M Q = WP d 219 8 [l0, l1, l2, l3, some (vi x), l5, l6] (st) M Q := w1 mC_219 d219_6 rfl rfl
theorem d219_8 : decode cX12_turnBy 8 = .ok (.aload_n 0, 1) := by decide +kernel
theorem k219_8 {d x : Nat} {l1 l2 l3 l4 l5 l6 : Option PV} {st : List PV} {M : Mem} {Q : Option PV → Mem → Prop} : WP d 219 8 [some (vr x), l1, l2, l3, l4, l5, l6] (st) M Q = WP d 219 9 [some (vr x), l1, l2, l3, l4, l5, l6] (vr x :: st) M Q := w1 mC_219 d219_8 rfl rfl
theorem d219_9 : decode cX12_turnBy 9 = .ok (.getfield 9, 3) := by decide +kernel
theorem k219_9 {d : Nat} {l0 l1 l2 l3 l4 l5 l6 : Option PV} {st : List PV} {M : Mem} {Q : Option PV → Mem → Prop} {r : Nat} (hk : mK M r = 12) : WP d 219 9 [l0, l1, l2, l3, l4, l5, l6] (vr r :: st) M Q = WP d 219 12 [l0, l1, l2, l3, l4, l5, l6] (vr (mR M r 2) :: st) M Q := w_getr mC_219 d219_9 fE_12_9 rfl (by rw [hk]; rfl)
theorem d219_12 : decode cX12_turnBy 12 = .ok (.bipush 24, 2) := by decide +kernel
theorem k219_12 {d : Nat} {l0 l1 l2 l3 l4 l5 l6 : Option PV} {st : List PV} {M : Mem} {Q : Option PV → Mem → Prop} : WP d 219 12 [l0, l1, l2, l3, l4, l5, l6] (st) M Q = WP d 219 14 [l0, l1, l2, l3, l4, l5, l6] (vi 24 :: st) M Q := w_bipush mC_219 d219_12 (by decide)
theorem d219_14 : decode cX12_turnBy 14 = .ok (.iload_n 3, 1) := by decide +kernel
theorem k219_14 {d : Nat} {x : Int32} {l0 l1 l2 l4 l5 l6 : Option PV} {st : List PV} {M : Mem} {Q : Option PV → Mem → Prop} : WP d 219 14 [l0, l1, l2, some (vi x), l4, l5, l6] (st) M Q = WP d 219 15 [l0, l1, l2, some (vi x), l4, l5, l6] (vi x :: st) M Q := w1 mC_219 d219_14 rfl rfl
theorem d219_15 : decode cX12_turnBy 15 = .ok (.iadd, 1) := by decide +kernel
theorem k219_15 {d : Nat} {l0 l1 l2 l3 l4 l5 l6 : Option PV} {st : List PV} {M : Mem} {Q : Option PV → Mem → Prop} {x y : Int32} : WP d 219 15 [l0, l1, l2, l3, l4, l5, l6] (vi y :: vi x :: st) M Q = WP d 219 16 [l0, l1, l2, l3, l4, l5, l6] (vi (x + y) :: st) M Q := w1 mC_219 d219_15 rfl rfl
theorem d219_16 : decode cX12_turnBy 16 = .ok (.iaload, 1) := by decide +kernel
theorem k219_16 {d : Nat} {l0 l1 l2 l3 l4 l5 l6 : Option PV} {st : List PV} {M : Mem} {Q : Option PV → Mem → Prop} {r : Nat} {j : Int32} (hk : mK M r = 13) (hj : inb j (mN M r)) (h1 : r ≠ 1) : WP d 219 16 [l0, l1, l2, l3, l4, l5, l6] (vi j :: vr r :: st) M Q = WP d 219 17 [l0, l1, l2, l3, l4, l5, l6] (vi (mI M r (ix j)) :: st) M Q := w_iald mC_219 d219_16 (by decide) hk hj h1
theorem d219_17 : decode cX12_turnBy 17 = .ok (.istore 5, 2) := by decide +kernel
theorem k219_17 {d : Nat} {l0 l1 l2 l3 l4 l5 l6 : Option PV} {st : List PV} {M : Mem} {Q : Option PV → Mem → Prop} {x : Int32} : WP d 219 17 [l0, l1, l2, l3, l4, l5, l6] (vi x :: st) M Q = WP d 219 19 [l0, l1, l2, l3, l4, some (vi x), l6] (st) M Q := w1 mC_219 d219_17 rfl rfl
theorem d219_19 : decode cX12_turnBy 19 = .ok (.iload_n 1, 1) := by decide +kernel
theorem k219_19 {d : Nat} {x : Int32} {l0 l2 l3 l4 l5 l6 : Option PV} {st : List PV} {M : Mem} {Q : Option PV → Mem → Prop} : WP d 219 19 [l0, some (vi x), l2, l3, l4, l5, l6] (st) M Q = WP d 219 20 [l0, some (vi x), l2, l3, l4, l5, l6] (vi x :: st) M Q := w1 mC_219 d219_19 rfl rfl
theorem d219_20 : decode cX12_turnBy 20 = .ok (.iconst 2, 1) := by decide +kernel
theorem k219_20 {d : Nat} {l0 l1 l2 l3 l4 l5 l6 : Option PV} {st : List PV} {M : Mem} {Q : Option PV → Mem → Prop} : WP d 219 20 [l0, l1, l2, l3, l4, l5, l6] (st) M Q = WP d 219 21 [l0, l1, l2, l3, l4, l5, l6] (vi 2 :: st) M Q := w_iconst mC_219 d219_20 (by decide)
theorem d219_21 : decode cX12_turnBy 21 = .ok (.irem, 1) := by decide +kernel
theorem k219_21 {d : Nat} {l0 l1 l2 l3 l4 l5 l6 : Option PV} {st : List PV} {M : Mem} {Q : Option PV → Mem → Prop} {x y : Int32} (h : y ≠ 0) : WP d 219 21 [l0, l1, l2, l3, l4, l5, l6] (vi y :: vi x :: st) M Q = WP d 219 22 [l0, l1, l2, l3, l4, l5, l6] (vi (x % y) :: st) M Q := w_rem mC_219 d219_21 h
theorem d219_22 : decode cX12_turnBy 22 = .ok (.ifCond .ne 20, 3) := by decide +kernel
theorem k219_22 {d : Nat} {l0 l1 l2 l3 l4 l5 l6 : Option PV} {st : List PV} {M : Mem} {Q : Option PV → Mem → Prop} {x : Int32} : WP d 219 22 [l0, l1, l2, l3, l4, l5, l6] (vi x :: st) M Q = (if x = 0 then WP d 219 25 [l0, l1, l2, l3, l4, l5, l6] (st) M Q else WP d 219 42 [l0, l1, l2, l3, l4, l5, l6] (st) M Q) := w_if_ne mC_219 d219_22 (by decide)
theorem d219_25 : decode cX12_turnBy 25 = .ok (.aload_n 0, 1) := by decide +kernel
theorem k219_25 {d x : Nat} {l1 l2 l3 l4 l5 l6 : Option PV} {st : List PV} {M : Mem} {Q : Option PV → Mem → Prop} : WP d 219 25 [some (vr x), l1, l2, l3, l4, l5, l6] (st) M Q = WP d 219 26 [some (vr x), l1, l2, l3, l4, l5, l6] (vr x :: st) M Q := w1 mC_219 d219_25 rfl rfl
theorem d219_26 : decode cX12_turnBy 26 = .ok (.getfield 15, 3) := by decide +kernel
theorem k219_26 {d : Nat} {l0 l1 l2 l3 l4 l5 l6 : Option PV} {st : List PV} {M : Mem} {Q : Option PV → Mem → Prop} {r : Nat} (hk : mK M r = 12) : WP d 219 26 [l0, l1, l2, l3, l4, l5, l6] (vr r :: st) M Q = WP d 219 29 [l0, l1, l2, l3, l4, l5, l6] (vr (mR M r 3) :: st) M Q := w_getr mC_219 d219_26 fE_12_15 rfl (by rw [hk]; rfl)
theorem d219_29 : decode cX12_turnBy 29 = .ok (.iconst 0, 1) := by decide +kernel
theorem k219_29 {d : Nat} {l0 l1 l2 l3 l4 l5 l6 : Option PV} {st : List PV} {M : Mem} {Q : Option PV → Mem → Prop} : WP d 219 29 [l0, l1, l2, l3, l4, l5, l6] (st) M Q = WP d 219 30 [l0, l1, l2, l3, l4, l5, l6] (vi 0 :: st) M Q := w_iconst mC_219 d219_29 (by decide)
theorem d219_30 : decode cX12_turnBy 30 = .ok (.iconst 0, 1) := by decide +kernel
theorem k219_30 {d : Nat} {l0 l1 l2 l3 l4 l5 l6 : Option PV} {st : List PV} {M : Mem} {Q : Option PV → Mem → Prop} : WP d 219 30 [l0, l1, l2, l3, l4, l5, l6] (st) M Q = WP d 219 31 [l0, l1, l2, l3, l4, l5, l6] (vi 0 :: st) M Q := w_iconst mC_219 d219_30 (by decide)
theorem d219_31 : decode cX12_turnBy 31 = .ok (.iload 4, 2) := by decide +kernel
theorem k219_31 {d : Nat} {x : Int32} {l0 l1 l2 l3 l5 l6 : Option PV} {st : List PV} {M : Mem} {Q : Option PV → Mem → Prop} : WP d 219 31 [l0, l1, l2, l3, some (vi x), l5, l6] (st) M Q = WP d 219 33 [l0, l1, l2, l3, some (vi x), l5, l6] (vi x :: st) M Q := w1 mC_219 d219_31 rfl rfl
theorem d219_33 : decode cX12_turnBy 33 = .ok (.iconst 1, 1) := by decide +kernel
theorem k219_33 {d : Nat} {l0 l1 l2 l3 l4 l5 l6 : Option PV} {st : List PV} {M : Mem} {Q : Option PV → Mem → Prop} : WP d 219 33 [l0, l1, l2, l3, l4, l5, l6] (st) M Q = WP d 219 34 [l0, l1, l2, l3, l4, l5, l6] (vi 1 :: st) M Q := w_iconst mC_219 d219_33 (by decide)
theorem d219_34 : decode cX12_turnBy 34 = .ok (.isub, 1) := by decide +kernel
theorem k219_34 {d : Nat} {l0 l1 l2 l3 l4 l5 l6 : Option PV} {st : List PV} {M : Mem} {Q : Option PV → Mem → Prop} {x y : Int32} : WP d 219 34 [l0, l1, l2, l3, l4, l5, l6] (vi y :: vi x :: st) M Q = WP d 219 35 [l0, l1, l2, l3, l4, l5, l6] (vi (x - y) :: st) M Q := w1 mC_219 d219_34 rfl rfl
theorem d219_35 : decode cX12_turnBy 35 = .ok (.invokestatic 246, 3) := by decide +kernel
theorem k219_35 {d : Nat} {l0 l1 l2 l3 l4 l5 l6 : Option PV} {st : List PV} {M : Mem} {Q : Option PV → Mem → Prop} {x y : Int32} (hl : szL st ≤ 8) : WP d 219 35 [l0, l1, l2, l3, l4, l5, l6] (vi y :: vi x :: st) M Q = WP d 219 38 [l0, l1, l2, l3, l4, l5, l6] (vi (if x < y then y else x) :: st) M Q := w_max mC_219 d219_35 rfl rfl rfl hl
theorem d219_38 : decode cX12_turnBy 38 = .ok (.iastore, 1) := by decide +kernel
theorem k219_38 {d : Nat} {l0 l1 l2 l3 l4 l5 l6 : Option PV} {st : List PV} {M : Mem} {Q : Option PV → Mem → Prop} {r : Nat} {j x : Int32} (hk : mK M r = 13) (hj : inb j (mN M r)) (h1 : r ≠ 1) : WP d 219 38 [l0, l1, l2, l3, l4, l5, l6] (vi x :: vi j :: vr r :: st) M Q = WP d 219 39 [l0, l1, l2, l3, l4, l5, l6] (st) (sI M r (ix j) x) Q := w_iast mC_219 d219_38 hk hj h1
theorem d219_39 : decode cX12_turnBy 39 = .ok (.goto 21, 3) := by decide +kernel
theorem k219_39 {d : Nat} {l0 l1 l2 l3 l4 l5 l6 : Option PV} {st : List PV} {M : Mem} {Q : Option PV → Mem → Prop} : WP d 219 39 [l0, l1, l2, l3, l4, l5, l6] (st) M Q = WP d 219 60 [l0, l1, l2, l3, l4, l5, l6] (st) M Q := w_goto mC_219 d219_39 (by decide)
theorem d219_42 : decode cX12_turnBy 42 = .ok (.aload_n 0, 1) := by decide +kernel
theorem k219_42 {d x : Nat} {l1 l2 l3 l4 l5 l6 : Option PV} {st : List PV} {M : Mem} {Q : Option PV → Mem → Prop} : WP d 219 42 [some (vr x), l1, l2, l3, l4, l5, l6] (st) M Q = WP d 219 43 [some (vr x), l1, l2, l3, l4, l5, l6] (vr x :: st) M Q := w1 mC_219 d219_42 rfl rfl
theorem d219_43 : decode cX12_turnBy 43 = .ok (.getfield 9, 3) := by decide +kernel
theorem k219_43 {d : Nat} {l0 l1 l2 l3 l4 l5 l6 : Option PV} {st : List PV} {M : Mem} {Q : Option PV → Mem → Prop} {r : Nat} (hk : mK M r = 12) : WP d 219 43 [l0, l1, l2, l3, l4, l5, l6] (vr r :: st) M Q = WP d 219 46 [l0, l1, l2, l3, l4, l5, l6] (vr (mR M r 2) :: st) M Q := w_getr mC_219 d219_43 fE_12_9 rfl (by rw [hk]; rfl)
theorem d219_46 : decode cX12_turnBy 46 = .ok (.bipush 24, 2) := by decide +kernel
theorem k219_46 {d : Nat} {l0 l1 l2 l3 l4 l5 l6 : Option PV} {st : List PV} {M : Mem} {Q : Option PV → Mem → Prop} : WP d 219 46 [l0, l1, l2, l3, l4, l5, l6] (st) M Q = WP d 219 48 [l0, l1, l2, l3, l4, l5, l6] (vi 24 :: st) M Q := w_bipush mC_219 d219_46 (by decide)
theorem d219_48 : decode cX12_turnBy 48 = .ok (.iload_n 3, 1) := by decide +kernel
theorem k219_48 {d : Nat} {x : Int32} {l0 l1 l2 l4 l5 l6 : Option PV} {st : List PV} {M : Mem} {Q : Option PV → Mem → Prop} : WP d 219 48 [l0, l1, l2, some (vi x), l4, l5, l6] (st) M Q = WP d 219 49 [l0, l1, l2, some (vi x), l4, l5, l6] (vi x :: st) M Q := w1 mC_219 d219_48 rfl rfl
theorem d219_49 : decode cX12_turnBy 49 = .ok (.iadd, 1) := by decide +kernel
theorem k219_49 {d : Nat} {l0 l1 l2 l3 l4 l5 l6 : Option PV} {st : List PV} {M : Mem} {Q : Option PV → Mem → Prop} {x y : Int32} : WP d 219 49 [l0, l1, l2, l3, l4, l5, l6] (vi y :: vi x :: st) M Q = WP d 219 50 [l0, l1, l2, l3, l4, l5, l6] (vi (x + y) :: st) M Q := w1 mC_219 d219_49 rfl rfl
theorem d219_50 : decode cX12_turnBy 50 = .ok (.bipush 9, 2) := by decide +kernel
theorem k219_50 {d : Nat} {l0 l1 l2 l3 l4 l5 l6 : Option PV} {st : List PV} {M : Mem} {Q : Option PV → Mem → Prop} : WP d 219 50 [l0, l1, l2, l3, l4, l5, l6] (st) M Q = WP d 219 52 [l0, l1, l2, l3, l4, l5, l6] (vi 9 :: st) M Q := w_bipush mC_219 d219_50 (by decide)
theorem d219_52 : decode cX12_turnBy 52 = .ok (.iload 5, 2) := by decide +kernel
theorem k219_52 {d : Nat} {x : Int32} {l0 l1 l2 l3 l4 l6 : Option PV} {st : List PV} {M : Mem} {Q : Option PV → Mem → Prop} : WP d 219 52 [l0, l1, l2, l3, l4, some (vi x), l6] (st) M Q = WP d 219 54 [l0, l1, l2, l3, l4, some (vi x), l6] (vi x :: st) M Q := w1 mC_219 d219_52 rfl rfl
theorem d219_54 : decode cX12_turnBy 54 = .ok (.iconst 1, 1) := by decide +kernel
theorem k219_54 {d : Nat} {l0 l1 l2 l3 l4 l5 l6 : Option PV} {st : List PV} {M : Mem} {Q : Option PV → Mem → Prop} : WP d 219 54 [l0, l1, l2, l3, l4, l5, l6] (st) M Q = WP d 219 55 [l0, l1, l2, l3, l4, l5, l6] (vi 1 :: st) M Q := w_iconst mC_219 d219_54 (by decide)
theorem d219_55 : decode cX12_turnBy 55 = .ok (.iadd, 1) := by decide +kernel
theorem k219_55 {d : Nat} {l0 l1 l2 l3 l4 l5 l6 : Option PV} {st : List PV} {M : Mem} {Q : Option PV → Mem → Prop} {x y : Int32} : WP d 219 55 [l0, l1, l2, l3, l4, l5, l6] (vi y :: vi x :: st) M Q = WP d 219 56 [l0, l1, l2, l3, l4, l5, l6] (vi (x + y) :: st) M Q := w1 mC_219 d219_55 rfl rfl
theorem d219_56 : decode cX12_turnBy 56 = .ok (.invokestatic 243, 3) := by decide +kernel
theorem k219_56 {d : Nat} {l0 l1 l2 l3 l4 l5 l6 : Option PV} {st : List PV} {M : Mem} {Q : Option PV → Mem → Prop} {x y : Int32} (hl : szL st ≤ 8) : WP d 219 56 [l0, l1, l2, l3, l4, l5, l6] (vi y :: vi x :: st) M Q = WP d 219 59 [l0, l1, l2, l3, l4, l5, l6] (vi (if y < x then y else x) :: st) M Q := w_min mC_219 d219_56 rfl rfl rfl hl
theorem d219_59 : decode cX12_turnBy 59 = .ok (.iastore, 1) := by decide +kernel
theorem k219_59 {d : Nat} {l0 l1 l2 l3 l4 l5 l6 : Option PV} {st : List PV} {M : Mem} {Q : Option PV → Mem → Prop} {r : Nat} {j x : Int32} (hk : mK M r = 13) (hj : inb j (mN M r)) (h1 : r ≠ 1) : WP d 219 59 [l0, l1, l2, l3, l4, l5, l6] (vi x :: vi j :: vr r :: st) M Q = WP d 219 60 [l0, l1, l2, l3, l4, l5, l6] (st) (sI M r (ix j) x) Q := w_iast mC_219 d219_59 hk hj h1
theorem d219_60 : decode cX12_turnBy 60 = .ok (.aload_n 0, 1) := by decide +kernel
theorem k219_60 {d x : Nat} {l1 l2 l3 l4 l5 l6 : Option PV} {st : List PV} {M : Mem} {Q : Option PV → Mem → Prop} : WP d 219 60 [some (vr x), l1, l2, l3, l4, l5, l6] (st) M Q = WP d 219 61 [some (vr x), l1, l2, l3, l4, l5, l6] (vr x :: st) M Q := w1 mC_219 d219_60 rfl rfl
theorem d219_61 : decode cX12_turnBy 61 = .ok (.iload_n 1, 1) := by decide +kernel
theorem k219_61 {d : Nat} {x : Int32} {l0 l2 l3 l4 l5 l6 : Option PV} {st : List PV} {M : Mem} {Q : Option PV → Mem → Prop} : WP d 219 61 [l0, some (vi x), l2, l3, l4, l5, l6] (st) M Q = WP d 219 62 [l0, some (vi x), l2, l3, l4, l5, l6] (vi x :: st) M Q := w1 mC_219 d219_61 rfl rfl
theorem d219_62 : decode cX12_turnBy 62 = .ok (.iconst 1, 1) := by decide +kernel
theorem k219_62 {d : Nat} {l0 l1 l2 l3 l4 l5 l6 : Option PV} {st : List PV} {M : Mem} {Q : Option PV → Mem → Prop} : WP d 219 62 [l0, l1, l2, l3, l4, l5, l6] (st) M Q = WP d 219 63 [l0, l1, l2, l3, l4, l5, l6] (vi 1 :: st) M Q := w_iconst mC_219 d219_62 (by decide)
theorem d219_63 : decode cX12_turnBy 63 = .ok (.iadd, 1) := by decide +kernel
theorem k219_63 {d : Nat} {l0 l1 l2 l3 l4 l5 l6 : Option PV} {st : List PV} {M : Mem} {Q : Option PV → Mem → Prop} {x y : Int32} : WP d 219 63 [l0, l1, l2, l3, l4, l5, l6] (vi y :: vi x :: st) M Q = WP d 219 64 [l0, l1, l2, l3, l4, l5, l6] (vi (x + y) :: st) M Q := w1 mC_219 d219_63 rfl rfl
theorem d219_64 : decode cX12_turnBy 64 = .ok (.iload_n 2, 1) := by decide +kernel
theorem k219_64 {d : Nat} {x : Int32} {l0 l1 l3 l4 l5 l6 : Option PV} {st : List PV} {M : Mem} {Q : Option PV → Mem → Prop} : WP d 219 64 [l0, l1, some (vi x), l3, l4, l5, l6] (st) M Q = WP d 219 65 [l0, l1, some (vi x), l3, l4, l5, l6] (vi x :: st) M Q := w1 mC_219 d219_64 rfl rfl
theorem d219_65 : decode cX12_turnBy 65 = .ok (.iload_n 3, 1) := by decide +kernel
theorem k219_65 {d : Nat} {x : Int32} {l0 l1 l2 l4 l5 l6 : Option PV} {st : List PV} {M : Mem} {Q : Option PV → Mem → Prop} : WP d 219 65 [l0, l1, l2, some (vi x), l4, l5, l6] (st) M Q = WP d 219 66 [l0, l1, l2, some (vi x), l4, l5, l6] (vi x :: st) M Q := w1 mC_219 d219_65 rfl rfl
theorem d219_66 : decode cX12_turnBy 66 = .ok (.invokevirtual 325, 3) := by decide +kernel
theorem k219_66 {d : Nat} {l0 l1 l2 l3 l4 l5 l6 : Option PV} {st : List PV} {M : Mem} {Q : Option PV → Mem → Prop} {a0 a1 a2 : Int32} {r : Nat} (hl : szL st ≤ 8) (hk : mK M r = 12) : WP (d + 1) 219 66 [l0, l1, l2, l3, l4, l5, l6] (vi a2 :: vi a1 :: vi a0 :: vr r :: st) M Q = WP d 218 0 [some (vr r), some (vi a0), some (vi a1), some (vi a2), none, none] [] M (fun v M' => WP (d + 1) 219 69 [l0, l1, l2, l3, l4, l5, l6] (psh v st) M' Q) := w_callV mC_219 d219_66 (ci := 12) rfl rfl rfl (Nat.le_of_ble_eq_true rfl) (by decide) rfl hl hk
theorem d219_69 : decode cX12_turnBy 69 = .ok (.istore 6, 2) := by decide +kernel
theorem k219_69 {d : Nat} {l0 l1 l2 l3 l4 l5 l6 : Option PV} {st : List PV} {M : Mem} {Q : Option PV → Mem → Prop} {x : Int32} : WP d 219 69 [l0, l1, l2, l3, l4, l5, l6] (vi x :: st) M Q = WP d 219 71 [l0, l1, l2, l3, l4, l5, some (vi x)] (st) M Q := w1 mC_219 d219_69 rfl rfl
theorem d219_71 : decode cX12_turnBy 71 = .ok (.aload_n 0, 1) := by decide +kernel
theorem k219_71 {d x : Nat} {l1 l2 l3 l4 l5 l6 : Option PV} {st : List PV} {M : Mem} {Q : Option PV → Mem → Prop} : WP d 219 71 [some (vr x), l1, l2, l3, l4, l5, l6] (st) M Q = WP d 219 72 [some (vr x), l1, l2, l3, l4, l5, l6] (vr x :: st) M Q := w1 mC_219 d219_71 rfl rfl
theorem d219_72 : decode cX12_turnBy 72 = .ok (.getfield 15, 3) := by decide +kernel
theorem k219_72 {d : Nat} {l0 l1 l2 l3 l4 l5 l6 : Option PV} {st : List PV} {M : Mem} {Q : Option PV → Mem → Prop} {r : Nat} (hk : mK M r = 12) : WP d 219 72 [l0, l1, l2, l3, l4, l5, l6] (vr r :: st) M Q = WP d 219 75 [l0, l1, l2, l3, l4, l5, l6] (vr (mR M r 3) :: st) M Q := w_getr mC_219 d219_72 fE_12_15 rfl (by rw [hk]; rfl)
theorem d219_75 : decode cX12_turnBy 75 = .ok (.iconst 0, 1) := by decide +kernel
theorem k219_75 {d : Nat} {l0 l1 l2 l3 l4 l5 l6 : Option PV} {st : List PV} {M : Mem} {Q : Option PV → Mem → Prop} : WP d 219 75 [l0, l1, l2, l3, l4, l5, l6] (st) M Q = WP d 219 76 [l0, l1, l2, l3, l4, l5, l6] (vi 0 :: st) M Q := w_iconst mC_219 d219_75 (by decide)
theorem d219_76 : decode cX12_turnBy 76 = .ok (.iload 4, 2) := by decide +kernel
theorem k219_76 {d : Nat} {x : Int32} {l0 l1 l2 l3 l5 l6 : Option PV} {st : List PV} {M : Mem} {Q : Option PV → Mem → Prop} : WP d 219 76 [l0, l1, l2, l3, some (vi x), l5, l6] (st) M Q = WP d 219 78 [l0, l1, l2, l3, some (vi x), l5, l6] (vi x :: st) M Q := w1 mC_219 d219_76 rfl rfl
theorem d219_78 : decode cX12_turnBy 78 = .ok (.iastore, 1) := by decide +kernel
theorem k219_78 {d : Nat} {l0 l1 l2 l3 l4 l5 l6 : Option PV} {st : List PV} {M : Mem} {Q : Option PV → Mem → Prop} {r : Nat} {j x : Int32} (hk : mK M r = 13) (hj : inb j (mN M r)) (h1 : r ≠ 1) : WP d 219 78 [l0, l1, l2, l3, l4, l5, l6] (vi x :: vi j :: vr r :: st) M Q = WP d 219 79 [l0, l1, l2, l3, l4, l5, l6] (st) (sI M r (ix j) x) Q := w_iast mC_219 d219_78 hk hj h1
theorem d219_79 : decode cX12_turnBy 79 = .ok (.aload_n 0, 1) := by decide +kernel
theorem k219_79 {d x : Nat} {l1 l2 l3 l4 l5 l6 : Option PV} {st : List PV} {M : Mem} {Q : Option PV → Mem → Prop} : WP d 219 79 [some (vr x), l1, l2, l3, l4, l5, l6] (st) M Q = WP d 219 80 [some (vr x), l1, l2, l3, l4, l5, l6] (vr x :: st) M Q := w1 mC_219 d219_79 rfl rfl
theorem d219_80 : decode cX12_turnBy 80 = .ok (.getfield 9, 3) := by decide +kernel
theorem k219_80 {d : Nat} {l0 l1 l2 l3 l4 l5 l6 : Option PV} {st : List PV} {M : Mem} {Q : Option PV → Mem → Prop} {r : Nat} (hk : mK M r = 12) : WP d 219 80 [l0, l1, l2, l3, l4, l5, l6] (vr r :: st) M Q = WP d 219 83 [l0, l1, l2, l3, l4, l5, l6] (vr (mR M r 2) :: st) M Q := w_getr mC_219 d219_80 fE_12_9 rfl (by rw [hk]; rfl)
theorem d219_83 : decode cX12_turnBy 83 = .ok (.bipush 24, 2) := by decide +kernel
theorem k219_83 {d : Nat} {l0 l1 l2 l3 l4 l5 l6 : Option PV} {st : List PV} {M : Mem} {Q : Option PV → Mem → Prop} : WP d 219 83 [l0, l1, l2, l3, l4, l5, l6] (st) M Q = WP d 219 85 [l0, l1, l2, l3, l4, l5, l6] (vi 24 :: st) M Q := w_bipush mC_219 d219_83 (by decide)
theorem d219_85 : decode cX12_turnBy 85 = .ok (.iload_n 3, 1) := by decide +kernel
theorem k219_85 {d : Nat} {x : Int32} {l0 l1 l2 l4 l5 l6 : Option PV} {st : List PV} {M : Mem} {Q : Option PV → Mem → Prop} : WP d 219 85 [l0, l1, l2, some (vi x), l4, l5, l6] (st) M Q = WP d 219 86 [l0, l1, l2, some (vi x), l4, l5, l6] (vi x :: st) M Q := w1 mC_219 d219_85 rfl rfl
theorem d219_86 : decode cX12_turnBy 86 = .ok (.iadd, 1) := by decide +kernel
theorem k219_86 {d : Nat} {l0 l1 l2 l3 l4 l5 l6 : Option PV} {st : List PV} {M : Mem} {Q : Option PV → Mem → Prop} {x y : Int32} : WP d 219 86 [l0, l1, l2, l3, l4, l5, l6] (vi y :: vi x :: st) M Q = WP d 219 87 [l0, l1, l2, l3, l4, l5, l6] (vi (x + y) :: st) M Q := w1 mC_219 d219_86 rfl rfl
theorem d219_87 : decode cX12_turnBy 87 = .ok (.iload 5, 2) := by decide +kernel
theorem k219_87 {d : Nat} {x : Int32} {l0 l1 l2 l3 l4 l6 : Option PV} {st : List PV} {M : Mem} {Q : Option PV → Mem → Prop} : WP d 219 87 [l0, l1, l2, l3, l4, some (vi x), l6] (st) M Q = WP d 219 89 [l0, l1, l2, l3, l4, some (vi x), l6] (vi x :: st) M Q := w1 mC_219 d219_87 rfl rfl
theorem d219_89 : decode cX12_turnBy 89 = .ok (.iastore, 1) := by decide +kernel
theorem k219_89 {d : Nat} {l0 l1 l2 l3 l4 l5 l6 : Option PV} {st : List PV} {M : Mem} {Q : Option PV → Mem → Prop} {r : Nat} {j x : Int32} (hk : mK M r = 13) (hj : inb j (mN M r)) (h1 : r ≠ 1) : WP d 219 89 [l0, l1, l2, l3, l4, l5, l6] (vi x :: vi j :: vr r :: st) M Q = WP d 219 90 [l0, l1, l2, l3, l4, l5, l6] (st) (sI M r (ix j) x) Q := w_iast mC_219 d219_89 hk hj h1
theorem d219_90 : decode cX12_turnBy 90 = .ok (.iload 6, 2) := by decide +kernel
theorem k219_90 {d : Nat} {x : Int32} {l0 l1 l2 l3 l4 l5 : Option PV} {st : List PV} {M : Mem} {Q : Option PV → Mem → Prop} : WP d 219 90 [l0, l1, l2, l3, l4, l5, some (vi x)] (st) M Q = WP d 219 92 [l0, l1, l2, l3, l4, l5, some (vi x)] (vi x :: st) M Q := w1 mC_219 d219_90 rfl rfl
theorem d219_92 : decode cX12_turnBy 92 = .ok (.ireturn, 1) := by decide +kernel
theorem k219_92 {d : Nat} {l0 l1 l2 l3 l4 l5 l6 : Option PV} {M : Mem} {Q : Option PV → Mem → Prop} {x : Int32} : WP d 219 92 [l0, l1, l2, l3, l4, l5, l6] ([vi x]) M Q = Q (some (vi x)) M := w_iret mC_219 d219_92 rfl
theorem d220_0 : decode cX12_byTurns 0 = .ok (.aload_n 0, 1) := by decide +kernel
theorem k220_0 {d x : Nat} {l1 l2 l3 l4 l5 : Option PV} {st : List PV} {M : Mem} {Q : Option PV → Mem → Prop} : WP d 220 0 [some (vr x), l1, l2, l3, l4, l5] (st) M Q = WP d 220 1 [some (vr x), l1, l2, l3, l4, l5] (vr x :: st) M Q := w1 mC_220 d220_0 rfl rfl
theorem d220_1 : decode cX12_byTurns 1 = .ok (.iload_n 1, 1) := by decide +kernel
theorem k220_1 {d : Nat} {x : Int32} {l0 l2 l3 l4 l5 : Option PV} {st : List PV} {M : Mem} {Q : Option PV → Mem → Prop} : WP d 220 1 [l0, some (vi x), l2, l3, l4, l5] (st) M Q = WP d 220 2 [l0, some (vi x), l2, l3, l4, l5] (vi x :: st) M Q := w1 mC_220 d220_1 rfl rfl
theorem d220_2 : decode cX12_byTurns 2 = .ok (.invokevirtual 134, 3) := by decide +kernel
theorem k220_2 {d : Nat} {l0 l1 l2 l3 l4 l5 : Option PV} {st : List PV} {M : Mem} {Q : Option PV → Mem → Prop} {a0 : Int32} {r : Nat} (hl : szL st ≤ 8) (hk : mK M r = 12) : WP (d + 1) 220 2 [l0, l1, l2, l3, l4, l5] (vi a0 :: vr r :: st) M Q = WP d 147 0 [some (vr r), some (vi a0)] [] M (fun v M' => WP (d + 1) 220 5 [l0, l1, l2, l3, l4, l5] (psh v st) M' Q) := w_callV mC_220 d220_2 (ci := 12) rfl rfl rfl (Nat.le_of_ble_eq_true rfl) (by decide) rfl hl hk
theorem d220_5 : decode cX12_byTurns 5 = .ok (.ifCond .eq 21, 3) := by decide +kernel
theorem k220_5 {d : Nat} {l0 l1 l2 l3 l4 l5 : Option PV} {st : List PV} {M : Mem} {Q : Option PV → Mem → Prop} {x : Int32} : WP d 220 5 [l0, l1, l2, l3, l4, l5] (vi x :: st) M Q = (if x = 0 then WP d 220 26 [l0, l1, l2, l3, l4, l5] (st) M Q else WP d 220 8 [l0, l1, l2, l3, l4, l5] (st) M Q) := w_if_eq mC_220 d220_5 (by decide)
theorem d220_8 : decode cX12_byTurns 8 = .ok (.iload_n 2, 1) := by decide +kernel
theorem k220_8 {d : Nat} {x : Int32} {l0 l1 l3 l4 l5 : Option PV} {st : List PV} {M : Mem} {Q : Option PV → Mem → Prop} : WP d 220 8 [l0, l1, some (vi x), l3, l4, l5] (st) M Q = WP d 220 9 [l0, l1, some (vi x), l3, l4, l5] (vi x :: st) M Q := w1 mC_220 d220_8 rfl rfl
theorem d220_9 : decode cX12_byTurns 9 = .ok (.iconst 1, 1) := by decide +kernel
theorem k220_9 {d : Nat} {l0 l1 l2 l3 l4 l5 : Option PV} {st : List PV} {M : Mem} {Q : Option PV → Mem → Prop} : WP d 220 9 [l0, l1, l2, l3, l4, l5] (st) M Q = WP d 220 10 [l0, l1, l2, l3, l4, l5] (vi 1 :: st) M Q := w_iconst mC_220 d220_9 (by decide)
theorem d220_10 : decode cX12_byTurns 10 = .ok (.iconst 5, 1) := by decide +kernel
theorem k220_10 {d : Nat} {l0 l1 l2 l3 l4 l5 : Option PV} {st : List PV} {M : Mem} {Q : Option PV → Mem → Prop} : WP d 220 10 [l0, l1, l2, l3, l4, l5] (st) M Q = WP d 220 11 [l0, l1, l2, l3, l4, l5] (vi 5 :: st) M Q := w_iconst mC_220 d220_10 (by decide)
theorem d220_11 : decode cX12_byTurns 11 = .ok (.invokestatic 104, 3) := by decide +kernel
theorem k220_11 {d : Nat} {l0 l1 l2 l3 l4 l5 : Option PV} {st : List PV} {M : Mem} {Q : Option PV → Mem → Prop} {a0 a1 a2 : Int32} (hl : szL st ≤ 8) : WP (d + 1) 220 11 [l0, l1, l2, l3, l4, l5] (vi a2 :: vi a1 :: vi a0 :: st) M Q = WP d 145 0 [some (vi a0), some (vi a1), some (vi a2)] [] M (fun v M' => WP (d + 1) 220 14 [l0, l1, l2, l3, l4, l5] (psh v st) M' Q) := w_callS mC_220 d220_11 rfl rfl (Nat.le_of_ble_eq_true rfl) (by decide) rfl hl
theorem d220_14 : decode cX12_byTurns 14 = .ok (.ifCond .eq 12, 3) := by decide +kernel
theorem k220_14 {d : Nat} {l0 l1 l2 l3 l4 l5 : Option PV} {st : List PV} {M : Mem} {Q : Option PV → Mem → Prop} {x : Int32} : WP d 220 14 [l0, l1, l2, l3, l4, l5] (vi x :: st) M Q = (if x = 0 then WP d 220 26 [l0, l1, l2, l3, l4, l5] (st) M Q else WP d 220 17 [l0, l1, l2, l3, l4, l5] (st) M Q) := w_if_eq mC_220 d220_14 (by decide)
theorem d220_17 : decode cX12_byTurns 17 = .ok (.iload_n 3, 1) := by decide +kernel
theorem k220_17 {d : Nat} {x : Int32} {l0 l1 l2 l4 l5 : Option PV} {st : List PV} {M : Mem} {Q : Option PV → Mem → Prop} : WP d 220 17 [l0, l1, l2, some (vi x), l4, l5] (st) M Q = WP d 220 18 [l0, l1, l2, some (vi x), l4, l5] (vi x :: st) M Q := w1 mC_220 d220_17 rfl rfl
theorem d220_18 : decode cX12_byTurns 18 = .ok (.iconst 0, 1) := by decide +kernel
theorem k220_18 {d : Nat} {l0 l1 l2 l3 l4 l5 : Option PV} {st : List PV} {M : Mem} {Q : Option PV → Mem → Prop} : WP d 220 18 [l0, l1, l2, l3, l4, l5] (st) M Q = WP d 220 19 [l0, l1, l2, l3, l4, l5] (vi 0 :: st) M Q := w_iconst mC_220 d220_18 (by decide)
theorem d220_19 : decode cX12_byTurns 19 = .ok (.iconst 1, 1) := by decide +kernel
theorem k220_19 {d : Nat} {l0 l1 l2 l3 l4 l5 : Option PV} {st : List PV} {M : Mem} {Q : Option PV → Mem → Prop} : WP d 220 19 [l0, l1, l2, l3, l4, l5] (st) M Q = WP d 220 20 [l0, l1, l2, l3, l4, l5] (vi 1 :: st) M Q := w_iconst mC_220 d220_19 (by decide)
theorem d220_20 : decode cX12_byTurns 20 = .ok (.invokestatic 104, 3) := by decide +kernel
theorem k220_20 {d : Nat} {l0 l1 l2 l3 l4 l5 : Option PV} {st : List PV} {M : Mem} {Q : Option PV → Mem → Prop} {a0 a1 a2 : Int32} (hl : szL st ≤ 8) : WP (d + 1) 220 20 [l0, l1, l2, l3, l4, l5] (vi a2 :: vi a1 :: vi a0 :: st) M Q = WP d 145 0 [some (vi a0), some (vi a1), some (vi a2)] [] M (fun v M' => WP (d + 1) 220 23 [l0, l1, l2, l3, l4, l5] (psh v st) M' Q) := w_callS mC_220 d220_20 rfl rfl (Nat.le_of_ble_eq_true rfl) (by decide) rfl hl
theorem d220_23 : decode cX12_byTurns 23 = .ok (.ifCond .ne 5, 3) := by decide +kernel
theorem k220_23 {d : Nat} {l0 l1 l2 l3 l4 l5 : Option PV} {st : List PV} {M : Mem} {Q : Option PV → Mem → Prop} {x : Int32} : WP d 220 23 [l0, l1, l2, l3, l4, l5] (vi x :: st) M Q = (if x = 0 then WP d 220 26 [l0, l1, l2, l3, l4, l5] (st) M Q else WP d 220 28 [l0, l1, l2, l3, l4, l5] (st) M Q) := w_if_ne mC_220 d220_23 (by decide)
theorem d220_26 : decode cX12_byTurns 26 = .ok (.iconst (-1), 1) := by decide +kernel
theorem k220_26 {d : Nat} {l0 l1 l2 l3 l4 l5 : Option PV} {st : List PV} {M : Mem} {Q : Option PV → Mem → Prop} : WP d 220 26 [l0, l1, l2, l3, l4, l5] (st) M Q = WP d 220 27 [l0, l1, l2, l3, l4, l5] (vi (-1) :: st) M Q := w_iconst mC_220 d220_26 (by decide)
theorem d220_27 : decode cX12_byTurns 27 = .ok (.ireturn, 1) := by decide +kernel
theorem k220_27 {d : Nat} {l0 l1 l2 l3 l4 l5 : Option PV} {M : Mem} {Q : Option PV → Mem → Prop} {x : Int32} : WP d 220 27 [l0, l1, l2, l3, l4, l5] ([vi x]) M Q = Q (some (vi x)) M := w_iret mC_220 d220_27 rfl
theorem d220_28 : decode cX12_byTurns 28 = .ok (.aload_n 0, 1) := by decide +kernel
theorem k220_28 {d x : Nat} {l1 l2 l3 l4 l5 : Option PV} {st : List PV} {M : Mem} {Q : Option PV → Mem → Prop} : WP d 220 28 [some (vr x), l1, l2, l3, l4, l5] (st) M Q = WP d 220 29 [some (vr x), l1, l2, l3, l4, l5] (vr x :: st) M Q := w1 mC_220 d220_28 rfl rfl
theorem d220_29 : decode cX12_byTurns 29 = .ok (.iconst 1, 1) := by decide +kernel
theorem k220_29 {d : Nat} {l0 l1 l2 l3 l4 l5 : Option PV} {st : List PV} {M : Mem} {Q : Option PV → Mem → Prop} : WP d 220 29 [l0, l1, l2, l3, l4, l5] (st) M Q = WP d 220 30 [l0, l1, l2, l3, l4, l5] (vi 1 :: st) M Q := w_iconst mC_220 d220_29 (by decide)
theorem d220_30 : decode cX12_byTurns 30 = .ok (.iload_n 2, 1) := by decide +kernel
theorem k220_30 {d : Nat} {x : Int32} {l0 l1 l3 l4 l5 : Option PV} {st : List PV} {M : Mem} {Q : Option PV → Mem → Prop} : WP d 220 30 [l0, l1, some (vi x), l3, l4, l5] (st) M Q = WP d 220 31 [l0, l1, some (vi x), l3, l4, l5] (vi x :: st) M Q := w1 mC_220 d220_30 rfl rfl
theorem d220_31 : decode cX12_byTurns 31 = .ok (.iload_n 1, 1) := by decide +kernel
theorem k220_31 {d : Nat} {x : Int32} {l0 l2 l3 l4 l5 : Option PV} {st : List PV} {M : Mem} {Q : Option PV → Mem → Prop} : WP d 220 31 [l0, some (vi x), l2, l3, l4, l5] (st) M Q = WP d 220 32 [l0, some (vi x), l2, l3, l4, l5] (vi x :: st) M Q := w1 mC_220 d220_31 rfl rfl
theorem d220_32 : decode cX12_byTurns 32 = .ok (.invokevirtual 325, 3) := by decide +kernel
theorem k220_32 {d : Nat} {l0 l1 l2 l3 l4 l5 : Option PV} {st : List PV} {M : Mem} {Q : Option PV → Mem → Prop} {a0 a1 a2 : Int32} {r : Nat} (hl : szL st ≤ 8) (hk : mK M r = 12) : WP (d + 1) 220 32 [l0, l1, l2, l3, l4, l5] (vi a2 :: vi a1 :: vi a0 :: vr r :: st) M Q = WP d 218 0 [some (vr r), some (vi a0), some (vi a1), some (vi a2), none, none] [] M (fun v M' => WP (d + 1) 220 35 [l0, l1, l2, l3, l4, l5] (psh v st) M' Q) := w_callV mC_220 d220_32 (ci := 12) rfl rfl rfl (Nat.le_of_ble_eq_true rfl) (by decide) rfl hl hk
theorem d220_35 : decode cX12_byTurns 35 = .ok (.istore 4, 2) := by decide +kernel
theorem k220_35 {d : Nat} {l0 l1 l2 l3 l4 l5 : Option PV} {st : List PV} {M : Mem} {Q : Option PV → Mem → Prop} {x : Int32} : WP d 220 35 [l0, l1, l2, l3, l4, l5] (vi x :: st) M Q = WP d 220 37 [l0, l1, l2, l3, some (vi x), l5] (st) M Q := w1 mC_220 d220_35 rfl rfl
theorem d220_37 : decode cX12_byTurns 37 = .ok (.aload_n 0, 1) := by decide +kernel
theorem k220_37 {d x : Nat} {l1 l2 l3 l4 l5 : Option PV} {st : List PV} {M : Mem} {Q : Option PV → Mem → Prop} : WP d 220 37 [some (vr x), l1, l2, l3, l4, l5] (st) M Q = WP d 220 38 [some (vr x), l1, l2, l3, l4, l5] (vr x :: st) M Q := w1 mC_220 d220_37 rfl rfl
theorem d220_38 : decode cX12_byTurns 38 = .ok (.iconst 0, 1) := by decide +kernel
theorem k220_38 {d : Nat} {l0 l1 l2 l3 l4 l5 : Option PV} {st : List PV} {M : Mem} {Q : Option PV → Mem → Prop} : WP d 220 38 [l0, l1, l2, l3, l4, l5] (st) M Q = WP d 220 39 [l0, l1, l2, l3, l4, l5] (vi 0 :: st) M Q := w_iconst mC_220 d220_38 (by decide)
theorem d220_39 : decode cX12_byTurns 39 = .ok (.iload_n 2, 1) := by decide +kernel
theorem k220_39 {d : Nat} {x : Int32} {l0 l1 l3 l4 l5 : Option PV} {st : List PV} {M : Mem} {Q : Option PV → Mem → Prop} : WP d 220 39 [l0, l1, some (vi x), l3, l4, l5] (st) M Q = WP d 220 40 [l0, l1, some (vi x), l3, l4, l5] (vi x :: st) M Q := w1 mC_220 d220_39 rfl rfl
theorem d220_40 : decode cX12_byTurns 40 = .ok (.iload_n 1, 1) := by decide +kernel
theorem k220_40 {d : Nat} {x : Int32} {l0 l2 l3 l4 l5 : Option PV} {st : List PV} {M : Mem} {Q : Option PV → Mem → Prop} : WP d 220 40 [l0, some (vi x), l2, l3, l4, l5] (st) M Q = WP d 220 41 [l0, some (vi x), l2, l3, l4, l5] (vi x :: st) M Q := w1 mC_220 d220_40 rfl rfl
theorem d220_41 : decode cX12_byTurns 41 = .ok (.invokevirtual 328, 3) := by decide +kernel
theorem k220_41 {d : Nat} {l0 l1 l2 l3 l4 l5 : Option PV} {st : List PV} {M : Mem} {Q : Option PV → Mem → Prop} {a0 a1 a2 : Int32} {r : Nat} (hl : szL st ≤ 8) (hk : mK M r = 12) : WP (d + 1) 220 41 [l0, l1, l2, l3, l4, l5] (vi a2 :: vi a1 :: vi a0 :: vr r :: st) M Q = WP d 219 0 [some (vr r), some (vi a0), some (vi a1), some (vi a2), none, none, none] [] M (fun v M' => WP (d + 1) 220 44 [l0, l1, l2, l3, l4, l5] (psh v st) M' Q) := w_callV mC_220 d220_41 (ci := 12) rfl rfl rfl (Nat.le_of_ble_eq_true rfl) (by decide) rfl hl hk
theorem d220_44 : decode cX12_byTurns 44 = .ok (.istore 5, 2) := by decide +kernel
theorem k220_44 {d : Nat} {l0 l1 l2 l3 l4 l5 : Option PV} {st : List PV} {M : Mem} {Q : Option PV → Mem → Prop} {x : Int32} : WP d 220 44 [l0, l1, l2, l3, l4, l5] (vi x :: st) M Q = WP d 220 46 [l0, l1, l2, l3, l4, some (vi x)] (st) M Q := w1 mC_220 d220_44 rfl rfl
theorem d220_46 : decode cX12_byTurns 46 = .ok (.iload_n 3, 1) := by decide +kernel
theorem k220_46 {d : Nat} {x : Int32} {l0 l1 l2 l4 l5 : Option PV} {st : List PV} {M : Mem} {Q : Option PV → Mem → Prop} : WP d 220 46 [l0, l1, l2, some (vi x), l4, l5] (st) M Q = WP d 220 47 [l0, l1, l2, some (vi x), l4, l5] (vi x :: st) M Q := w1 mC_220 d220_46 rfl rfl
theorem d220_47 : decode cX12_byTurns 47 = .ok (.ifCond .ne 13, 3) := by decide +kernel
theorem k220_47 {d : Nat} {l0 l1 l2 l3 l4 l5 : Option PV} {st : List PV} {M : Mem} {Q : Option PV → Mem → Prop} {x : Int32} : WP d 220 47 [l0, l1, l2, l3, l4, l5] (vi x :: st) M Q = (if x = 0 then WP d 220 50 [l0, l1, l2, l3, l4, l5] (st) M Q else WP d 220 60 [l0, l1, l2, l3, l4, l5] (st) M Q) := w_if_ne mC_220 d220_47 (by decide)
theorem d220_50 : decode cX12_byTurns 50 = .ok (.iload 4, 2) := by decide +kernel
theorem k220_50 {d : Nat} {x : Int32} {l0 l1 l2 l3 l5 : Option PV} {st : List PV} {M : Mem} {Q : Option PV → Mem → Prop} : WP d 220 50 [l0, l1, l2, l3, some (vi x), l5] (st) M Q = WP d 220 52 [l0, l1, l2, l3, some (vi x), l5] (vi x :: st) M Q := w1 mC_220 d220_50 rfl rfl
theorem d220_52 : decode cX12_byTurns 52 = .ok (.iload 5, 2) := by decide +kernel
theorem k220_52 {d : Nat} {x : Int32} {l0 l1 l2 l3 l4 : Option PV} {st : List PV} {M : Mem} {Q : Option PV → Mem → Prop} : WP d 220 52 [l0, l1, l2, l3, l4, some (vi x)] (st) M Q = WP d 220 54 [l0, l1, l2, l3, l4, some (vi x)] (vi x :: st) M Q := w1 mC_220 d220_52 rfl rfl
theorem d220_54 : decode cX12_byTurns 54 = .ok (.invokestatic 246, 3) := by decide +kernel
theorem k220_54 {d : Nat} {l0 l1 l2 l3 l4 l5 : Option PV} {st : List PV} {M : Mem} {Q : Option PV → Mem → Prop} {x y : Int32} (hl : szL st ≤ 8) : WP d 220 54 [l0, l1, l2, l3, l4, l5] (vi y :: vi x :: st) M Q = WP d 220 57 [l0, l1, l2, l3, l4, l5] (vi (if x < y then y else x) :: st) M Q := w_max mC_220 d220_54 rfl rfl rfl hl
theorem d220_57 : decode cX12_byTurns 57 = .ok (.goto 15, 3) := by decide +kernel
theorem k220_57 {d : Nat} {l0 l1 l2 l3 l4 l5 : Option PV} {st : List PV} {M : Mem} {Q : Option PV → Mem → Prop} : WP d 220 57 [l0, l1, l2, l3, l4, l5] (st) M Q = WP d 220 72 [l0, l1, l2, l3, l4, l5] (st) M Q := w_goto mC_220 d220_57 (by decide)
theorem d220_60 : decode cX12_byTurns 60 = .ok (.iload 5, 2) := by decide +kernel
theorem k220_60 {d : Nat} {x : Int32} {l0 l1 l2 l3 l4 : Option PV} {st : List PV} {M : Mem} {Q : Option PV → Mem → Prop} : WP d 220 60 [l0, l1, l2, l3, l4, some (vi x)] (st) M Q = WP d 220 62 [l0, l1, l2, l3, l4, some (vi x)] (vi x :: st) M Q := w1 mC_220 d220_60 rfl rfl
theorem d220_62 : decode cX12_byTurns 62 = .ok (.iload 4, 2) := by decide +kernel
theorem k220_62 {d : Nat} {x : Int32} {l0 l1 l2 l3 l5 : Option PV} {st : List PV} {M : Mem} {Q : Option PV → Mem → Prop} : WP d 220 62 [l0, l1, l2, l3, some (vi x), l5] (st) M Q = WP d 220 64 [l0, l1, l2, l3, some (vi x), l5] (vi x :: st) M Q := w1 mC_220 d220_62 rfl rfl
theorem d220_64 : decode cX12_byTurns 64 = .ok (.if_icmp .le 7, 3) := by decide +kernel
theorem k220_64 {d : Nat} {l0 l1 l2 l3 l4 l5 : Option PV} {st : List PV} {M : Mem} {Q : Option PV → Mem → Prop} {x y : Int32} : WP d 220 64 [l0, l1, l2, l3, l4, l5] (vi y :: vi x :: st) M Q = (if x ≤ y then WP d 220 71 [l0, l1, l2, l3, l4, l5] (st) M Q else WP d 220 67 [l0, l1, l2, l3, l4, l5] (st) M Q) := w_ic_le mC_220 d220_64 (by decide)
theorem d220_67 : decode cX12_byTurns 67 = .ok (.iconst 1, 1) := by decide +kernel
theorem k220_67 {d : Nat} {l0 l1 l2 l3 l4 l5 : Option PV} {st : List PV} {M : Mem} {Q : Option PV → Mem → Prop} : WP d 220 67 [l0, l1, l2, l3, l4, l5] (st) M Q = WP d 220 68 [l0, l1, l2, l3, l4, l5] (vi 1 :: st) M Q := w_iconst mC_220 d220_67 (by decide)
theorem d220_68 : decode cX12_byTurns 68 = .ok (.goto 4, 3) := by decide +kernel
theorem k220_68 {d : Nat} {l0 l1 l2 l3 l4 l5 : Option PV} {st : List PV} {M : Mem} {Q : Option PV → Mem → Prop} : WP d 220 68 [l0, l1, l2, l3, l4, l5] (st) M Q = WP d 220 72 [l0, l1, l2, l3, l4, l5] (st) M Q := w_goto mC_220 d220_68 (by decide)
theorem d220_71 : decode cX12_byTurns 71 = .ok (.iconst 0, 1) := by decide +kernel
theorem k220_71 {d : Nat} {l0 l1 l2 l3 l4 l5 : Option PV} {st : List PV} {M : Mem} {Q : Option PV → Mem → Prop} : WP d 220 71 [l0, l1, l2, l3, l4, l5] (st) M Q = WP d 220 72 [l0, l1, l2, l3, l4, l5] (vi 0 :: st) M Q := w_iconst mC_220 d220_71 (by decide)
theorem d220_72 : decode cX12_byTurns 72 = .ok (.ireturn, 1) := by decide +kernel
theorem k220_72 {d : Nat} {l0 l1 l2 l3 l4 l5 : Option PV} {M : Mem} {Q : Option PV → Mem → Prop} {x : Int32} : WP d 220 72 [l0, l1, l2, l3, l4, l5] ([vi x]) M Q = Q (some (vi x)) M := w_iret mC_220 d220_72 rfl
theorem d221_0 : decode cX12_drawn 0 = .ok (.iload_n 2, 1) := by decide +kernel
theorem k221_0 {d : Nat} {x : Int32} {l0 l1 l3 l4 l5 l6 l7 : Option PV} {st : List PV} {M : Mem} {Q : Option PV → Mem → Prop} : WP d 221 0 [l0, l1, some (vi x), l3, l4, l5, l6, l7] (st) M Q = WP d 221 1 [l0, l1, some (vi x), l3, l4, l5, l6, l7] (vi x :: st) M Q := w1 mC_221 d221_0 rfl rfl
theorem d221_1 : decode cX12_drawn 1 = .ok (.ifCond .lt 46, 3) := by decide +kernel
theorem k221_1 {d : Nat} {l0 l1 l2 l3 l4 l5 l6 l7 : Option PV} {st : List PV} {M : Mem} {Q : Option PV → Mem → Prop} {x : Int32} : WP d 221 1 [l0, l1, l2, l3, l4, l5, l6, l7] (vi x :: st) M Q = (if x < 0 then WP d 221 47 [l0, l1, l2, l3, l4, l5, l6, l7] (st) M Q else WP d 221 4 [l0, l1, l2, l3, l4, l5, l6, l7] (st) M Q) := w_if_lt mC_221 d221_1 (by decide)
theorem d221_4 : decode cX12_drawn 4 = .ok (.iload_n 2, 1) := by decide +kernel
theorem k221_4 {d : Nat} {x : Int32} {l0 l1 l3 l4 l5 l6 l7 : Option PV} {st : List PV} {M : Mem} {Q : Option PV → Mem → Prop} : WP d 221 4 [l0, l1, some (vi x), l3, l4, l5, l6, l7] (st) M Q = WP d 221 5 [l0, l1, some (vi x), l3, l4, l5, l6, l7] (vi x :: st) M Q := w1 mC_221 d221_4 rfl rfl
theorem d221_5 : decode cX12_drawn 5 = .ok (.sipush 10000, 3) := by decide +kernel
theorem k221_5 {d : Nat} {l0 l1 l2 l3 l4 l5 l6 l7 : Option PV} {st : List PV} {M : Mem} {Q : Option PV → Mem → Prop} : WP d 221 5 [l0, l1, l2, l3, l4, l5, l6, l7] (st) M Q = WP d 221 8 [l0, l1, l2, l3, l4, l5, l6, l7] (vi 10000 :: st) M Q := w_sipush mC_221 d221_5 (by decide)
theorem d221_8 : decode cX12_drawn 8 = .ok (.idiv, 1) := by decide +kernel
theorem k221_8 {d : Nat} {l0 l1 l2 l3 l4 l5 l6 l7 : Option PV} {st : List PV} {M : Mem} {Q : Option PV → Mem → Prop} {x y : Int32} (h : y ≠ 0) : WP d 221 8 [l0, l1, l2, l3, l4, l5, l6, l7] (vi y :: vi x :: st) M Q = WP d 221 9 [l0, l1, l2, l3, l4, l5, l6, l7] (vi (x / y) :: st) M Q := w_div mC_221 d221_8 h
theorem d221_9 : decode cX12_drawn 9 = .ok (.iconst 1, 1) := by decide +kernel
theorem k221_9 {d : Nat} {l0 l1 l2 l3 l4 l5 l6 l7 : Option PV} {st : List PV} {M : Mem} {Q : Option PV → Mem → Prop} : WP d 221 9 [l0, l1, l2, l3, l4, l5, l6, l7] (st) M Q = WP d 221 10 [l0, l1, l2, l3, l4, l5, l6, l7] (vi 1 :: st) M Q := w_iconst mC_221 d221_9 (by decide)
theorem d221_10 : decode cX12_drawn 10 = .ok (.bipush 30, 2) := by decide +kernel
theorem k221_10 {d : Nat} {l0 l1 l2 l3 l4 l5 l6 l7 : Option PV} {st : List PV} {M : Mem} {Q : Option PV → Mem → Prop} : WP d 221 10 [l0, l1, l2, l3, l4, l5, l6, l7] (st) M Q = WP d 221 12 [l0, l1, l2, l3, l4, l5, l6, l7] (vi 30 :: st) M Q := w_bipush mC_221 d221_10 (by decide)
theorem d221_12 : decode cX12_drawn 12 = .ok (.invokestatic 104, 3) := by decide +kernel
theorem k221_12 {d : Nat} {l0 l1 l2 l3 l4 l5 l6 l7 : Option PV} {st : List PV} {M : Mem} {Q : Option PV → Mem → Prop} {a0 a1 a2 : Int32} (hl : szL st ≤ 8) : WP (d + 1) 221 12 [l0, l1, l2, l3, l4, l5, l6, l7] (vi a2 :: vi a1 :: vi a0 :: st) M Q = WP d 145 0 [some (vi a0), some (vi a1), some (vi a2)] [] M (fun v M' => WP (d + 1) 221 15 [l0, l1, l2, l3, l4, l5, l6, l7] (psh v st) M' Q) := w_callS mC_221 d221_12 rfl rfl (Nat.le_of_ble_eq_true rfl) (by decide) rfl hl
theorem d221_15 : decode cX12_drawn 15 = .ok (.ifCond .eq 32, 3) := by decide +kernel
theorem k221_15 {d : Nat} {l0 l1 l2 l3 l4 l5 l6 l7 : Option PV} {st : List PV} {M : Mem} {Q : Option PV → Mem → Prop} {x : Int32} : WP d 221 15 [l0, l1, l2, l3, l4, l5, l6, l7] (vi x :: st) M Q = (if x = 0 then WP d 221 47 [l0, l1, l2, l3, l4, l5, l6, l7] (st) M Q else WP d 221 18 [l0, l1, l2, l3, l4, l5, l6, l7] (st) M Q) := w_if_eq mC_221 d221_15 (by decide)
theorem d221_18 : decode cX12_drawn 18 = .ok (.iload_n 2, 1) := by decide +kernel
theorem k221_18 {d : Nat} {x : Int32} {l0 l1 l3 l4 l5 l6 l7 : Option PV} {st : List PV} {M : Mem} {Q : Option PV → Mem → Prop} : WP d 221 18 [l0, l1, some (vi x), l3, l4, l5, l6, l7] (st) M Q = WP d 221 19 [l0, l1, some (vi x), l3, l4, l5, l6, l7] (vi x :: st) M Q := w1 mC_221 d221_18 rfl rfl
theorem d221_19 : decode cX12_drawn 19 = .ok (.bipush 100, 2) := by decide +kernel
theorem k221_19 {d : Nat} {l0 l1 l2 l3 l4 l5 l6 l7 : Option PV} {st : List PV} {M : Mem} {Q : Option PV → Mem → Prop} : WP d 221 19 [l0, l1, l2, l3, l4, l5, l6, l7] (st) M Q = WP d 221 21 [l0, l1, l2, l3, l4, l5, l6, l7] (vi 100 :: st) M Q := w_bipush mC_221 d221_19 (by decide)
theorem d221_21 : decode cX12_drawn 21 = .ok (.idiv, 1) := by decide +kernel
theorem k221_21 {d : Nat} {l0 l1 l2 l3 l4 l5 l6 l7 : Option PV} {st : List PV} {M : Mem} {Q : Option PV → Mem → Prop} {x y : Int32} (h : y ≠ 0) : WP d 221 21 [l0, l1, l2, l3, l4, l5, l6, l7] (vi y :: vi x :: st) M Q = WP d 221 22 [l0, l1, l2, l3, l4, l5, l6, l7] (vi (x / y) :: st) M Q := w_div mC_221 d221_21 h
theorem d221_22 : decode cX12_drawn 22 = .ok (.bipush 100, 2) := by decide +kernel
theorem k221_22 {d : Nat} {l0 l1 l2 l3 l4 l5 l6 l7 : Option PV} {st : List PV} {M : Mem} {Q : Option PV → Mem → Prop} : WP d 221 22 [l0, l1, l2, l3, l4, l5, l6, l7] (st) M Q = WP d 221 24 [l0, l1, l2, l3, l4, l5, l6, l7] (vi 100 :: st) M Q := w_bipush mC_221 d221_22 (by decide)
theorem d221_24 : decode cX12_drawn 24 = .ok (.irem, 1) := by decide +kernel
theorem k221_24 {d : Nat} {l0 l1 l2 l3 l4 l5 l6 l7 : Option PV} {st : List PV} {M : Mem} {Q : Option PV → Mem → Prop} {x y : Int32} (h : y ≠ 0) : WP d 221 24 [l0, l1, l2, l3, l4, l5, l6, l7] (vi y :: vi x :: st) M Q = WP d 221 25 [l0, l1, l2, l3, l4, l5, l6, l7] (vi (x % y) :: st) M Q := w_rem mC_221 d221_24 h
theorem d221_25 : decode cX12_drawn 25 = .ok (.iconst 1, 1) := by decide +kernel
theorem k221_25 {d : Nat} {l0 l1 l2 l3 l4 l5 l6 l7 : Option PV} {st : List PV} {M : Mem} {Q : Option PV → Mem → Prop} : WP d 221 25 [l0, l1, l2, l3, l4, l5, l6, l7] (st) M Q = WP d 221 26 [l0, l1, l2, l3, l4, l5, l6, l7] (vi 1 :: st) M Q := w_iconst mC_221 d221_25 (by decide)
theorem d221_26 : decode cX12_drawn 26 = .ok (.bipush 40, 2) := by decide +kernel
theorem k221_26 {d : Nat} {l0 l1 l2 l3 l4 l5 l6 l7 : Option PV} {st : List PV} {M : Mem} {Q : Option PV → Mem → Prop} : WP d 221 26 [l0, l1, l2, l3, l4, l5, l6, l7] (st) M Q = WP d 221 28 [l0, l1, l2, l3, l4, l5, l6, l7] (vi 40 :: st) M Q := w_bipush mC_221 d221_26 (by decide)
theorem d221_28 : decode cX12_drawn 28 = .ok (.invokestatic 104, 3) := by decide +kernel
theorem k221_28 {d : Nat} {l0 l1 l2 l3 l4 l5 l6 l7 : Option PV} {st : List PV} {M : Mem} {Q : Option PV → Mem → Prop} {a0 a1 a2 : Int32} (hl : szL st ≤ 8) : WP (d + 1) 221 28 [l0, l1, l2, l3, l4, l5, l6, l7] (vi a2 :: vi a1 :: vi a0 :: st) M Q = WP d 145 0 [some (vi a0), some (vi a1), some (vi a2)] [] M (fun v M' => WP (d + 1) 221 31 [l0, l1, l2, l3, l4, l5, l6, l7] (psh v st) M' Q) := w_callS mC_221 d221_28 rfl rfl (Nat.le_of_ble_eq_true rfl) (by decide) rfl hl
theorem d221_31 : decode cX12_drawn 31 = .ok (.ifCond .eq 16, 3) := by decide +kernel
theorem k221_31 {d : Nat} {l0 l1 l2 l3 l4 l5 l6 l7 : Option PV} {st : List PV} {M : Mem} {Q : Option PV → Mem → Prop} {x : Int32} : WP d 221 31 [l0, l1, l2, l3, l4, l5, l6, l7] (vi x :: st) M Q = (if x = 0 then WP d 221 47 [l0, l1, l2, l3, l4, l5, l6, l7] (st) M Q else WP d 221 34 [l0, l1, l2, l3, l4, l5, l6, l7] (st) M Q) := w_if_eq mC_221 d221_31 (by decide)
theorem d221_34 : decode cX12_drawn 34 = .ok (.iload_n 3, 1) := by decide +kernel
theorem k221_34 {d : Nat} {x : Int32} {l0 l1 l2 l4 l5 l6 l7 : Option PV} {st : List PV} {M : Mem} {Q : Option PV → Mem → Prop} : WP d 221 34 [l0, l1, l2, some (vi x), l4, l5, l6, l7] (st) M Q = WP d 221 35 [l0, l1, l2, some (vi x), l4, l5, l6, l7] (vi x :: st) M Q := w1 mC_221 d221_34 rfl rfl
theorem d221_35 : decode cX12_drawn 35 = .ok (.iconst (-1), 1) := by decide +kernel
theorem k221_35 {d : Nat} {l0 l1 l2 l3 l4 l5 l6 l7 : Option PV} {st : List PV} {M : Mem} {Q : Option PV → Mem → Prop} : WP d 221 35 [l0, l1, l2, l3, l4, l5, l6, l7] (st) M Q = WP d 221 36 [l0, l1, l2, l3, l4, l5, l6, l7] (vi (-1) :: st) M Q := w_iconst mC_221 d221_35 (by decide)
theorem d221_36 : decode cX12_drawn 36 = .ok (.if_icmp .eq 13, 3) := by decide +kernel
theorem k221_36 {d : Nat} {l0 l1 l2 l3 l4 l5 l6 l7 : Option PV} {st : List PV} {M : Mem} {Q : Option PV → Mem → Prop} {x y : Int32} : WP d 221 36 [l0, l1, l2, l3, l4, l5, l6, l7] (vi y :: vi x :: st) M Q = (if x = y then WP d 221 49 [l0, l1, l2, l3, l4, l5, l6, l7] (st) M Q else WP d 221 39 [l0, l1, l2, l3, l4, l5, l6, l7] (st) M Q) := w_ic_eq mC_221 d221_36 (by decide)
theorem d221_39 : decode cX12_drawn 39 = .ok (.aload_n 0, 1) := by decide +kernel
theorem k221_39 {d x : Nat} {l1 l2 l3 l4 l5 l6 l7 : Option PV} {st : List PV} {M : Mem} {Q : Option PV → Mem → Prop} : WP d 221 39 [some (vr x), l1, l2, l3, l4, l5, l6, l7] (st) M Q = WP d 221 40 [some (vr x), l1, l2, l3, l4, l5, l6, l7] (vr x :: st) M Q := w1 mC_221 d221_39 rfl rfl
theorem d221_40 : decode cX12_drawn 40 = .ok (.iload_n 3, 1) := by decide +kernel
theorem k221_40 {d : Nat} {x : Int32} {l0 l1 l2 l4 l5 l6 l7 : Option PV} {st : List PV} {M : Mem} {Q : Option PV → Mem → Prop} : WP d 221 40 [l0, l1, l2, some (vi x), l4, l5, l6, l7] (st) M Q = WP d 221 41 [l0, l1, l2, some (vi x), l4, l5, l6, l7] (vi x :: st) M Q := w1 mC_221 d221_40 rfl rfl
theorem d221_41 : decode cX12_drawn 41 = .ok (.invokevirtual 119, 3) := by decide +kernel
theorem k221_41 {d : Nat} {l0 l1 l2 l3 l4 l5 l6 l7 : Option PV} {st : List PV} {M : Mem} {Q : Option PV → Mem → Prop} {a0 : Int32} {r : Nat} (hl : szL st ≤ 8) (hk : mK M r = 12) : WP (d + 1) 221 41 [l0, l1, l2, l3, l4, l5, l6, l7] (vi a0 :: vr r :: st) M Q = WP d 146 0 [some (vr r), some (vi a0)] [] M (fun v M' => WP (d + 1) 221 44 [l0, l1, l2, l3, l4, l5, l6, l7] (psh v st) M' Q) := w_callV mC_221 d221_41 (ci := 12) rfl rfl rfl (Nat.le_of_ble_eq_true rfl) (by decide) rfl hl hk
theorem d221_44 : decode cX12_drawn 44 = .ok (.ifCond .ne 5, 3) := by decide +kernel
theorem k221_44 {d : Nat} {l0 l1 l2 l3 l4 l5 l6 l7 : Option PV} {st : List PV} {M : Mem} {Q : Option PV → Mem → Prop} {x : Int32} : WP d 221 44 [l0, l1, l2, l3, l4, l5, l6, l7] (vi x :: st) M Q = (if x = 0 then WP d 221 47 [l0, l1, l2, l3, l4, l5, l6, l7] (st) M Q else WP d 221 49 [l0, l1, l2, l3, l4, l5, l6, l7] (st) M Q) := w_if_ne mC_221 d221_44 (by decide)
theorem d221_47 : decode cX12_drawn 47 = .ok (.iconst (-1), 1) := by decide +kernel
theorem k221_47 {d : Nat} {l0 l1 l2 l3 l4 l5 l6 l7 : Option PV} {st : List PV} {M : Mem} {Q : Option PV → Mem → Prop} : WP d 221 47 [l0, l1, l2, l3, l4, l5, l6, l7] (st) M Q = WP d 221 48 [l0, l1, l2, l3, l4, l5, l6, l7] (vi (-1) :: st) M Q := w_iconst mC_221 d221_47 (by decide)
theorem d221_48 : decode cX12_drawn 48 = .ok (.ireturn, 1) := by decide +kernel
theorem k221_48 {d : Nat} {l0 l1 l2 l3 l4 l5 l6 l7 : Option PV} {M : Mem} {Q : Option PV → Mem → Prop} {x : Int32} : WP d 221 48 [l0, l1, l2, l3, l4, l5, l6, l7] ([vi x]) M Q = Q (some (vi x)) M := w_iret mC_221 d221_48 rfl
theorem d221_49 : decode cX12_drawn 49 = .ok (.aload_n 0, 1) := by decide +kernel
theorem k221_49 {d x : Nat} {l1 l2 l3 l4 l5 l6 l7 : Option PV} {st : List PV} {M : Mem} {Q : Option PV → Mem → Prop} : WP d 221 49 [some (vr x), l1, l2, l3, l4, l5, l6, l7] (st) M Q = WP d 221 50 [some (vr x), l1, l2, l3, l4, l5, l6, l7] (vr x :: st) M Q := w1 mC_221 d221_49 rfl rfl
theorem d221_50 : decode cX12_drawn 50 = .ok (.aload_n 0, 1) := by decide +kernel
theorem k221_50 {d x : Nat} {l1 l2 l3 l4 l5 l6 l7 : Option PV} {st : List PV} {M : Mem} {Q : Option PV → Mem → Prop} : WP d 221 50 [some (vr x), l1, l2, l3, l4, l5, l6, l7] (st) M Q = WP d 221 51 [some (vr x), l1, l2, l3, l4, l5, l6, l7] (vr x :: st) M Q := w1 mC_221 d221_50 rfl rfl
theorem d221_51 : decode cX12_drawn 51 = .ok (.getfield 82, 3) := by decide +kernel
theorem k221_51 {d : Nat} {l0 l1 l2 l3 l4 l5 l6 l7 : Option PV} {st : List PV} {M : Mem} {Q : Option PV → Mem → Prop} {r : Nat} (hk : mK M r = 12) : WP d 221 51 [l0, l1, l2, l3, l4, l5, l6, l7] (vr r :: st) M Q = WP d 221 54 [l0, l1, l2, l3, l4, l5, l6, l7] (vr (mR M r 41) :: st) M Q := w_getr mC_221 d221_51 fE_12_82 rfl (by rw [hk]; rfl)
theorem d221_54 : decode cX12_drawn 54 = .ok (.invokevirtual 272, 3) := by decide +kernel
theorem k221_54 {d : Nat} {l0 l1 l2 l3 l4 l5 l6 l7 : Option PV} {st : List PV} {M : Mem} {Q : Option PV → Mem → Prop} {a0 : Nat} {r : Nat} (hl : szL st ≤ 8) (hk : mK M r = 12) : WP (d + 1) 221 54 [l0, l1, l2, l3, l4, l5, l6, l7] (vr a0 :: vr r :: st) M Q = WP d 190 0 [some (vr r), some (vr a0), none] [] M (fun v M' => WP (d + 1) 221 57 [l0, l1, l2, l3, l4, l5, l6, l7] (psh v st) M' Q) := w_callV mC_221 d221_54 (ci := 12) rfl rfl rfl (Nat.le_of_ble_eq_true rfl) (by decide) rfl hl hk
theorem d221_57 : decode cX12_drawn 57 = .ok (.iload_n 1, 1) := by decide +kernel
theorem k221_57 {d : Nat} {x : Int32} {l0 l2 l3 l4 l5 l6 l7 : Option PV} {st : List PV} {M : Mem} {Q : Option PV → Mem → Prop} : WP d 221 57 [l0, some (vi x), l2, l3, l4, l5, l6, l7] (st) M Q = WP d 221 58 [l0, some (vi x), l2, l3, l4, l5, l6, l7] (vi x :: st) M Q := w1 mC_221 d221_57 rfl rfl
theorem d221_58 : decode cX12_drawn 58 = .ok (.istore 4, 2) := by decide +kernel
theorem k221_58 {d : Nat} {l0 l1 l2 l3 l4 l5 l6 l7 : Option PV} {st : List PV} {M : Mem} {Q : Option PV → Mem → Prop} {x : Int32} : WP d 221 58 [l0, l1, l2, l3, l4, l5, l6, l7] (vi x :: st) M Q = WP d 221 60 [l0, l1, l2, l3, some (vi x), l5, l6, l7] (st) M Q := w1 mC_221 d221_58 rfl rfl
theorem d221_60 : decode cX12_drawn 60 = .ok (.iconst 0, 1) := by decide +kernel
theorem k221_60 {d : Nat} {l0 l1 l2 l3 l4 l5 l6 l7 : Option PV} {st : List PV} {M : Mem} {Q : Option PV → Mem → Prop} : WP d 221 60 [l0, l1, l2, l3, l4, l5, l6, l7] (st) M Q = WP d 221 61 [l0, l1, l2, l3, l4, l5, l6, l7] (vi 0 :: st) M Q := w_iconst mC_221 d221_60 (by decide)
theorem d221_61 : decode cX12_drawn 61 = .ok (.istore 5, 2) := by decide +kernel
theorem k221_61 {d : Nat} {l0 l1 l2 l3 l4 l5 l6 l7 : Option PV} {st : List PV} {M : Mem} {Q : Option PV → Mem → Prop} {x : Int32} : WP d 221 61 [l0, l1, l2, l3, l4, l5, l6, l7] (vi x :: st) M Q = WP d 221 63 [l0, l1, l2, l3, l4, some (vi x), l6, l7] (st) M Q := w1 mC_221 d221_61 rfl rfl
theorem d221_63 : decode cX12_drawn 63 = .ok (.iconst 0, 1) := by decide +kernel
theorem k221_63 {d : Nat} {l0 l1 l2 l3 l4 l5 l6 l7 : Option PV} {st : List PV} {M : Mem} {Q : Option PV → Mem → Prop} : WP d 221 63 [l0, l1, l2, l3, l4, l5, l6, l7] (st) M Q = WP d 221 64 [l0, l1, l2, l3, l4, l5, l6, l7] (vi 0 :: st) M Q := w_iconst mC_221 d221_63 (by decide)
theorem d221_64 : decode cX12_drawn 64 = .ok (.istore 6, 2) := by decide +kernel
theorem k221_64 {d : Nat} {l0 l1 l2 l3 l4 l5 l6 l7 : Option PV} {st : List PV} {M : Mem} {Q : Option PV → Mem → Prop} {x : Int32} : WP d 221 64 [l0, l1, l2, l3, l4, l5, l6, l7] (vi x :: st) M Q = WP d 221 66 [l0, l1, l2, l3, l4, l5, some (vi x), l7] (st) M Q := w1 mC_221 d221_64 rfl rfl
theorem d221_66 : decode cX12_drawn 66 = .ok (.iload 6, 2) := by decide +kernel
theorem k221_66 {d : Nat} {x : Int32} {l0 l1 l2 l3 l4 l5 l7 : Option PV} {st : List PV} {M : Mem} {Q : Option PV → Mem → Prop} : WP d 221 66 [l0, l1, l2, l3, l4, l5, some (vi x), l7] (st) M Q = WP d 221 68 [l0, l1, l2, l3, l4, l5, some (vi x), l7] (vi x :: st) M Q := w1 mC_221 d221_66 rfl rfl
theorem d221_68 : decode cX12_drawn 68 = .ok (.iload_n 2, 1) := by decide +kernel
theorem k221_68 {d : Nat} {x : Int32} {l0 l1 l3 l4 l5 l6 l7 : Option PV} {st : List PV} {M : Mem} {Q : Option PV → Mem → Prop} : WP d 221 68 [l0, l1, some (vi x), l3, l4, l5, l6, l7] (st) M Q = WP d 221 69 [l0, l1, some (vi x), l3, l4, l5, l6, l7] (vi x :: st) M Q := w1 mC_221 d221_68 rfl rfl
theorem d221_69 : decode cX12_drawn 69 = .ok (.sipush 10000, 3) := by decide +kernel
theorem k221_69 {d : Nat} {l0 l1 l2 l3 l4 l5 l6 l7 : Option PV} {st : List PV} {M : Mem} {Q : Option PV → Mem → Prop} : WP d 221 69 [l0, l1, l2, l3, l4, l5, l6, l7] (st) M Q = WP d 221 72 [l0, l1, l2, l3, l4, l5, l6, l7] (vi 10000 :: st) M Q := w_sipush mC_221 d221_69 (by decide)
theorem d221_72 : decode cX12_drawn 72 = .ok (.idiv, 1) := by decide +kernel
theorem k221_72 {d : Nat} {l0 l1 l2 l3 l4 l5 l6 l7 : Option PV} {st : List PV} {M : Mem} {Q : Option PV → Mem → Prop} {x y : Int32} (h : y ≠ 0) : WP d 221 72 [l0, l1, l2, l3, l4, l5, l6, l7] (vi y :: vi x :: st) M Q = WP d 221 73 [l0, l1, l2, l3, l4, l5, l6, l7] (vi (x / y) :: st) M Q := w_div mC_221 d221_72 h
theorem d221_73 : decode cX12_drawn 73 = .ok (.if_icmp .ge 147, 3) := by decide +kernel
theorem k221_73 {d : Nat} {l0 l1 l2 l3 l4 l5 l6 l7 : Option PV} {st : List PV} {M : Mem} {Q : Option PV → Mem → Prop} {x y : Int32} : WP d 221 73 [l0, l1, l2, l3, l4, l5, l6, l7] (vi y :: vi x :: st) M Q = (if y ≤ x then WP d 221 220 [l0, l1, l2, l3, l4, l5, l6, l7] (st) M Q else WP d 221 76 [l0, l1, l2, l3, l4, l5, l6, l7] (st) M Q) := w_ic_ge mC_221 d221_73 (by decide)
theorem d221_76 : decode cX12_drawn 76 = .ok (.iconst 0, 1) := by decide +kernel
theorem k221_76 {d : Nat} {l0 l1 l2 l3 l4 l5 l6 l7 : Option PV} {st : List PV} {M : Mem} {Q : Option PV → Mem → Prop} : WP d 221 76 [l0, l1, l2, l3, l4, l5, l6, l7] (st) M Q = WP d 221 77 [l0, l1, l2, l3, l4, l5, l6, l7] (vi 0 :: st) M Q := w_iconst mC_221 d221_76 (by decide)
theorem d221_77 : decode cX12_drawn 77 = .ok (.istore 7, 2) := by decide +kernel
theorem k221_77 {d : Nat} {l0 l1 l2 l3 l4 l5 l6 l7 : Option PV} {st : List PV} {M : Mem} {Q : Option PV → Mem → Prop} {x : Int32} : WP d 221 77 [l0, l1, l2, l3, l4, l5, l6, l7] (vi x :: st) M Q = WP d 221 79 [l0, l1, l2, l3, l4, l5, l6, some (vi x)] (st) M Q := w1 mC_221 d221_77 rfl rfl
theorem d221_79 : decode cX12_drawn 79 = .ok (.iload 7, 2) := by decide +kernel
theorem k221_79 {d : Nat} {x : Int32} {l0 l1 l2 l3 l4 l5 l6 : Option PV} {st : List PV} {M : Mem} {Q : Option PV → Mem → Prop} : WP d 221 79 [l0, l1, l2, l3, l4, l5, l6, some (vi x)] (st) M Q = WP d 221 81 [l0, l1, l2, l3, l4, l5, l6, some (vi x)] (vi x :: st) M Q := w1 mC_221 d221_79 rfl rfl
theorem d221_81 : decode cX12_drawn 81 = .ok (.iload_n 2, 1) := by decide +kernel
theorem k221_81 {d : Nat} {x : Int32} {l0 l1 l3 l4 l5 l6 l7 : Option PV} {st : List PV} {M : Mem} {Q : Option PV → Mem → Prop} : WP d 221 81 [l0, l1, some (vi x), l3, l4, l5, l6, l7] (st) M Q = WP d 221 82 [l0, l1, some (vi x), l3, l4, l5, l6, l7] (vi x :: st) M Q := w1 mC_221 d221_81 rfl rfl
theorem d221_82 : decode cX12_drawn 82 = .ok (.bipush 100, 2) := by decide +kernel
theorem k221_82 {d : Nat} {l0 l1 l2 l3 l4 l5 l6 l7 : Option PV} {st : List PV} {M : Mem} {Q : Option PV → Mem → Prop} : WP d 221 82 [l0, l1, l2, l3, l4, l5, l6, l7] (st) M Q = WP d 221 84 [l0, l1, l2, l3, l4, l5, l6, l7] (vi 100 :: st) M Q := w_bipush mC_221 d221_82 (by decide)
theorem d221_84 : decode cX12_drawn 84 = .ok (.idiv, 1) := by decide +kernel
theorem k221_84 {d : Nat} {l0 l1 l2 l3 l4 l5 l6 l7 : Option PV} {st : List PV} {M : Mem} {Q : Option PV → Mem → Prop} {x y : Int32} (h : y ≠ 0) : WP d 221 84 [l0, l1, l2, l3, l4, l5, l6, l7] (vi y :: vi x :: st) M Q = WP d 221 85 [l0, l1, l2, l3, l4, l5, l6, l7] (vi (x / y) :: st) M Q := w_div mC_221 d221_84 h
theorem d221_85 : decode cX12_drawn 85 = .ok (.bipush 100, 2) := by decide +kernel
theorem k221_85 {d : Nat} {l0 l1 l2 l3 l4 l5 l6 l7 : Option PV} {st : List PV} {M : Mem} {Q : Option PV → Mem → Prop} : WP d 221 85 [l0, l1, l2, l3, l4, l5, l6, l7] (st) M Q = WP d 221 87 [l0, l1, l2, l3, l4, l5, l6, l7] (vi 100 :: st) M Q := w_bipush mC_221 d221_85 (by decide)
theorem d221_87 : decode cX12_drawn 87 = .ok (.irem, 1) := by decide +kernel
theorem k221_87 {d : Nat} {l0 l1 l2 l3 l4 l5 l6 l7 : Option PV} {st : List PV} {M : Mem} {Q : Option PV → Mem → Prop} {x y : Int32} (h : y ≠ 0) : WP d 221 87 [l0, l1, l2, l3, l4, l5, l6, l7] (vi y :: vi x :: st) M Q = WP d 221 88 [l0, l1, l2, l3, l4, l5, l6, l7] (vi (x % y) :: st) M Q := w_rem mC_221 d221_87 h
theorem d221_88 : decode cX12_drawn 88 = .ok (.if_icmp .ge 85, 3) := by decide +kernel
theorem k221_88 {d : Nat} {l0 l1 l2 l3 l4 l5 l6 l7 : Option PV} {st : List PV} {M : Mem} {Q : Option PV → Mem → Prop} {x y : Int32} : WP d 221 88 [l0, l1, l2, l3, l4, l5, l6, l7] (vi y :: vi x :: st) M Q = (if y ≤ x then WP d 221 173 [l0, l1, l2, l3, l4, l5, l6, l7] (st) M Q else WP d 221 91 [l0, l1, l2, l3, l4, l5, l6, l7] (st) M Q) := w_ic_ge mC_221 d221_88 (by decide)
theorem d221_91 : decode cX12_drawn 91 = .ok (.iload 4, 2) := by decide +kernel
theorem k221_91 {d : Nat} {x : Int32} {l0 l1 l2 l3 l5 l6 l7 : Option PV} {st : List PV} {M : Mem} {Q : Option PV → Mem → Prop} : WP d 221 91 [l0, l1, l2, l3, some (vi x), l5, l6, l7] (st) M Q = WP d 221 93 [l0, l1, l2, l3, some (vi x), l5, l6, l7] (vi x :: st) M Q := w1 mC_221 d221_91 rfl rfl
theorem d221_93 : decode cX12_drawn 93 = .ok (.ldc_w 331, 3) := by decide +kernel
theorem k221_93 {d : Nat} {l0 l1 l2 l3 l4 l5 l6 l7 : Option PV} {st : List PV} {M : Mem} {Q : Option PV → Mem → Prop} : WP d 221 93 [l0, l1, l2, l3, l4, l5, l6, l7] (st) M Q = WP d 221 96 [l0, l1, l2, l3, l4, l5, l6, l7] (vi 1103515245 :: st) M Q := w_ldcw mC_221 d221_93 rfl
theorem d221_96 : decode cX12_drawn 96 = .ok (.imul, 1) := by decide +kernel
theorem k221_96 {d : Nat} {l0 l1 l2 l3 l4 l5 l6 l7 : Option PV} {st : List PV} {M : Mem} {Q : Option PV → Mem → Prop} {x y : Int32} : WP d 221 96 [l0, l1, l2, l3, l4, l5, l6, l7] (vi y :: vi x :: st) M Q = WP d 221 97 [l0, l1, l2, l3, l4, l5, l6, l7] (vi (x * y) :: st) M Q := w1 mC_221 d221_96 rfl rfl
theorem d221_97 : decode cX12_drawn 97 = .ok (.sipush 12345, 3) := by decide +kernel
theorem k221_97 {d : Nat} {l0 l1 l2 l3 l4 l5 l6 l7 : Option PV} {st : List PV} {M : Mem} {Q : Option PV → Mem → Prop} : WP d 221 97 [l0, l1, l2, l3, l4, l5, l6, l7] (st) M Q = WP d 221 100 [l0, l1, l2, l3, l4, l5, l6, l7] (vi 12345 :: st) M Q := w_sipush mC_221 d221_97 (by decide)
theorem d221_100 : decode cX12_drawn 100 = .ok (.iadd, 1) := by decide +kernel
theorem k221_100 {d : Nat} {l0 l1 l2 l3 l4 l5 l6 l7 : Option PV} {st : List PV} {M : Mem} {Q : Option PV → Mem → Prop} {x y : Int32} : WP d 221 100 [l0, l1, l2, l3, l4, l5, l6, l7] (vi y :: vi x :: st) M Q = WP d 221 101 [l0, l1, l2, l3, l4, l5, l6, l7] (vi (x + y) :: st) M Q := w1 mC_221 d221_100 rfl rfl
theorem d221_101 : decode cX12_drawn 101 = .ok (.istore 4, 2) := by decide +kernel
theorem k221_101 {d : Nat} {l0 l1 l2 l3 l4 l5 l6 l7 : Option PV} {st : List PV} {M : Mem} {Q : Option PV → Mem → Prop} {x : Int32} : WP d 221 101 [l0, l1, l2, l3, l4, l5, l6, l7] (vi x :: st) M Q = WP d 221 103 [l0, l1, l2, l3, some (vi x), l5, l6, l7] (st) M Q := w1 mC_221 d221_101 rfl rfl
theorem d221_103 : decode cX12_drawn 103 = .ok (.aload_n 0, 1) := by decide +kernel
theorem k221_103 {d x : Nat} {l1 l2 l3 l4 l5 l6 l7 : Option PV} {st : List PV} {M : Mem} {Q : Option PV → Mem → Prop} : WP d 221 103 [some (vr x), l1, l2, l3, l4, l5, l6, l7] (st) M Q = WP d 221 104 [some (vr x), l1, l2, l3, l4, l5, l6, l7] (vr x :: st) M Q := w1 mC_221 d221_103 rfl rfl
theorem d221_104 : decode cX12_drawn 104 = .ok (.getfield 108, 3) := by decide +kernel
theorem k221_104 {d : Nat} {l0 l1 l2 l3 l4 l5 l6 l7 : Option PV} {st : List PV} {M : Mem} {Q : Option PV → Mem → Prop} {r : Nat} (hk : mK M r = 12) : WP d 221 104 [l0, l1, l2, l3, l4, l5, l6, l7] (vr r :: st) M Q = WP d 221 107 [l0, l1, l2, l3, l4, l5, l6, l7] (vi (mI M r 1) :: st) M Q := w_get mC_221 d221_104 fE_12_108 rfl (by rw [hk]; rfl)
theorem d221_107 : decode cX12_drawn 107 = .ok (.ifCond .le 56, 3) := by decide +kernel
theorem k221_107 {d : Nat} {l0 l1 l2 l3 l4 l5 l6 l7 : Option PV} {st : List PV} {M : Mem} {Q : Option PV → Mem → Prop} {x : Int32} : WP d 221 107 [l0, l1, l2, l3, l4, l5, l6, l7] (vi x :: st) M Q = (if x ≤ 0 then WP d 221 163 [l0, l1, l2, l3, l4, l5, l6, l7] (st) M Q else WP d 221 110 [l0, l1, l2, l3, l4, l5, l6, l7] (st) M Q) := w_if_le mC_221 d221_107 (by decide)
theorem d221_110 : decode cX12_drawn 110 = .ok (.iload 4, 2) := by decide +kernel
theorem k221_110 {d : Nat} {x : Int32} {l0 l1 l2 l3 l5 l6 l7 : Option PV} {st : List PV} {M : Mem} {Q : Option PV → Mem → Prop} : WP d 221 110 [l0, l1, l2, l3, some (vi x), l5, l6, l7] (st) M Q = WP d 221 112 [l0, l1, l2, l3, some (vi x), l5, l6, l7] (vi x :: st) M Q := w1 mC_221 d221_110 rfl rfl
theorem d221_112 : decode cX12_drawn 112 = .ok (.bipush 16, 2) := by decide +kernel
theorem k221_112 {d : Nat} {l0 l1 l2 l3 l4 l5 l6 l7 : Option PV} {st : List PV} {M : Mem} {Q : Option PV → Mem → Prop} : WP d 221 112 [l0, l1, l2, l3, l4, l5, l6, l7] (st) M Q = WP d 221 114 [l0, l1, l2, l3, l4, l5, l6, l7] (vi 16 :: st) M Q := w_bipush mC_221 d221_112 (by decide)
theorem d221_114 : decode cX12_drawn 114 = .ok (.iushr, 1) := by decide +kernel
theorem k221_114 {d : Nat} {l0 l1 l2 l3 l4 l5 l6 l7 : Option PV} {st : List PV} {M : Mem} {Q : Option PV → Mem → Prop} {x y : Int32} : WP d 221 114 [l0, l1, l2, l3, l4, l5, l6, l7] (vi y :: vi x :: st) M Q = WP d 221 115 [l0, l1, l2, l3, l4, l5, l6, l7] (vi ((x.toUInt32 >>> (y.toUInt32 &&& Int32.toUInt32 31)).toInt32) :: st) M Q := w1 mC_221 d221_114 rfl rfl
theorem d221_115 : decode cX12_drawn 115 = .ok (.bipush 100, 2) := by decide +kernel
theorem k221_115 {d : Nat} {l0 l1 l2 l3 l4 l5 l6 l7 : Option PV} {st : List PV} {M : Mem} {Q : Option PV → Mem → Prop} : WP d 221 115 [l0, l1, l2, l3, l4, l5, l6, l7] (st) M Q = WP d 221 117 [l0, l1, l2, l3, l4, l5, l6, l7] (vi 100 :: st) M Q := w_bipush mC_221 d221_115 (by decide)
theorem d221_117 : decode cX12_drawn 117 = .ok (.irem, 1) := by decide +kernel
theorem k221_117 {d : Nat} {l0 l1 l2 l3 l4 l5 l6 l7 : Option PV} {st : List PV} {M : Mem} {Q : Option PV → Mem → Prop} {x y : Int32} (h : y ≠ 0) : WP d 221 117 [l0, l1, l2, l3, l4, l5, l6, l7] (vi y :: vi x :: st) M Q = WP d 221 118 [l0, l1, l2, l3, l4, l5, l6, l7] (vi (x % y) :: st) M Q := w_rem mC_221 d221_117 h
theorem d221_118 : decode cX12_drawn 118 = .ok (.iload_n 2, 1) := by decide +kernel
theorem k221_118 {d : Nat} {x : Int32} {l0 l1 l3 l4 l5 l6 l7 : Option PV} {st : List PV} {M : Mem} {Q : Option PV → Mem → Prop} : WP d 221 118 [l0, l1, some (vi x), l3, l4, l5, l6, l7] (st) M Q = WP d 221 119 [l0, l1, some (vi x), l3, l4, l5, l6, l7] (vi x :: st) M Q := w1 mC_221 d221_118 rfl rfl
theorem d221_119 : decode cX12_drawn 119 = .ok (.bipush 100, 2) := by decide +kernel
theorem k221_119 {d : Nat} {l0 l1 l2 l3 l4 l5 l6 l7 : Option PV} {st : List PV} {M : Mem} {Q : Option PV → Mem → Prop} : WP d 221 119 [l0, l1, l2, l3, l4, l5, l6, l7] (st) M Q = WP d 221 121 [l0, l1, l2, l3, l4, l5, l6, l7] (vi 100 :: st) M Q := w_bipush mC_221 d221_119 (by decide)
theorem d221_121 : decode cX12_drawn 121 = .ok (.irem, 1) := by decide +kernel
theorem k221_121 {d : Nat} {l0 l1 l2 l3 l4 l5 l6 l7 : Option PV} {st : List PV} {M : Mem} {Q : Option PV → Mem → Prop} {x y : Int32} (h : y ≠ 0) : WP d 221 121 [l0, l1, l2, l3, l4, l5, l6, l7] (vi y :: vi x :: st) M Q = WP d 221 122 [l0, l1, l2, l3, l4, l5, l6, l7] (vi (x % y) :: st) M Q := w_rem mC_221 d221_121 h
theorem d221_122 : decode cX12_drawn 122 = .ok (.if_icmp .ge 41, 3) := by decide +kernel
theorem k221_122 {d : Nat} {l0 l1 l2 l3 l4 l5 l6 l7 : Option PV} {st : List PV} {M : Mem} {Q : Option PV → Mem → Prop} {x y : Int32} : WP d 221 122 [l0, l1, l2, l3, l4, l5, l6, l7] (vi y :: vi x :: st) M Q = (if y ≤ x then WP d 221 163 [l0, l1, l2, l3, l4, l5, l6, l7] (st) M Q else WP d 221 125 [l0, l1, l2, l3, l4, l5, l6, l7] (st) M Q) := w_ic_ge mC_221 d221_122 (by decide)
theorem d221_125 : decode cX12_drawn 125 = .ok (.aload_n 0, 1) := by decide +kernel
theorem k221_125 {d x : Nat} {l1 l2 l3 l4 l5 l6 l7 : Option PV} {st : List PV} {M : Mem} {Q : Option PV → Mem → Prop} : WP d 221 125 [some (vr x), l1, l2, l3, l4, l5, l6, l7] (st) M Q = WP d 221 126 [some (vr x), l1, l2, l3, l4, l5, l6, l7] (vr x :: st) M Q := w1 mC_221 d221_125 rfl rfl
theorem d221_126 : decode cX12_drawn 126 = .ok (.getfield 9, 3) := by decide +kernel
theorem k221_126 {d : Nat} {l0 l1 l2 l3 l4 l5 l6 l7 : Option PV} {st : List PV} {M : Mem} {Q : Option PV → Mem → Prop} {r : Nat} (hk : mK M r = 12) : WP d 221 126 [l0, l1, l2, l3, l4, l5, l6, l7] (vr r :: st) M Q = WP d 221 129 [l0, l1, l2, l3, l4, l5, l6, l7] (vr (mR M r 2) :: st) M Q := w_getr mC_221 d221_126 fE_12_9 rfl (by rw [hk]; rfl)
theorem d221_129 : decode cX12_drawn 129 = .ok (.bipush 32, 2) := by decide +kernel
theorem k221_129 {d : Nat} {l0 l1 l2 l3 l4 l5 l6 l7 : Option PV} {st : List PV} {M : Mem} {Q : Option PV → Mem → Prop} : WP d 221 129 [l0, l1, l2, l3, l4, l5, l6, l7] (st) M Q = WP d 221 131 [l0, l1, l2, l3, l4, l5, l6, l7] (vi 32 :: st) M Q := w_bipush mC_221 d221_129 (by decide)
theorem d221_131 : decode cX12_drawn 131 = .ok (.iload 4, 2) := by decide +kernel
theorem k221_131 {d : Nat} {x : Int32} {l0 l1 l2 l3 l5 l6 l7 : Option PV} {st : List PV} {M : Mem} {Q : Option PV → Mem → Prop} : WP d 221 131 [l0, l1, l2, l3, some (vi x), l5, l6, l7] (st) M Q = WP d 221 133 [l0, l1, l2, l3, some (vi x), l5, l6, l7] (vi x :: st) M Q := w1 mC_221 d221_131 rfl rfl
theorem d221_133 : decode cX12_drawn 133 = .ok (.bipush 8, 2) := by decide +kernel
theorem k221_133 {d : Nat} {l0 l1 l2 l3 l4 l5 l6 l7 : Option PV} {st : List PV} {M : Mem} {Q : Option PV → Mem → Prop} : WP d 221 133 [l0, l1, l2, l3, l4, l5, l6, l7] (st) M Q = WP d 221 135 [l0, l1, l2, l3, l4, l5, l6, l7] (vi 8 :: st) M Q := w_bipush mC_221 d221_133 (by decide)
theorem d221_135 : decode cX12_drawn 135 = .ok (.iushr, 1) := by decide +kernel
theorem k221_135 {d : Nat} {l0 l1 l2 l3 l4 l5 l6 l7 : Option PV} {st : List PV} {M : Mem} {Q : Option PV → Mem → Prop} {x y : Int32} : WP d 221 135 [l0, l1, l2, l3, l4, l5, l6, l7] (vi y :: vi x :: st) M Q = WP d 221 136 [l0, l1, l2, l3, l4, l5, l6, l7] (vi ((x.toUInt32 >>> (y.toUInt32 &&& Int32.toUInt32 31)).toInt32) :: st) M Q := w1 mC_221 d221_135 rfl rfl
theorem d221_136 : decode cX12_drawn 136 = .ok (.aload_n 0, 1) := by decide +kernel
theorem k221_136 {d x : Nat} {l1 l2 l3 l4 l5 l6 l7 : Option PV} {st : List PV} {M : Mem} {Q : Option PV → Mem → Prop} : WP d 221 136 [some (vr x), l1, l2, l3, l4, l5, l6, l7] (st) M Q = WP d 221 137 [some (vr x), l1, l2, l3, l4, l5, l6, l7] (vr x :: st) M Q := w1 mC_221 d221_136 rfl rfl
theorem d221_137 : decode cX12_drawn 137 = .ok (.getfield 108, 3) := by decide +kernel
theorem k221_137 {d : Nat} {l0 l1 l2 l3 l4 l5 l6 l7 : Option PV} {st : List PV} {M : Mem} {Q : Option PV → Mem → Prop} {r : Nat} (hk : mK M r = 12) : WP d 221 137 [l0, l1, l2, l3, l4, l5, l6, l7] (vr r :: st) M Q = WP d 221 140 [l0, l1, l2, l3, l4, l5, l6, l7] (vi (mI M r 1) :: st) M Q := w_get mC_221 d221_137 fE_12_108 rfl (by rw [hk]; rfl)
theorem d221_140 : decode cX12_drawn 140 = .ok (.irem, 1) := by decide +kernel
theorem k221_140 {d : Nat} {l0 l1 l2 l3 l4 l5 l6 l7 : Option PV} {st : List PV} {M : Mem} {Q : Option PV → Mem → Prop} {x y : Int32} (h : y ≠ 0) : WP d 221 140 [l0, l1, l2, l3, l4, l5, l6, l7] (vi y :: vi x :: st) M Q = WP d 221 141 [l0, l1, l2, l3, l4, l5, l6, l7] (vi (x % y) :: st) M Q := w_rem mC_221 d221_140 h
theorem d221_141 : decode cX12_drawn 141 = .ok (.iadd, 1) := by decide +kernel
theorem k221_141 {d : Nat} {l0 l1 l2 l3 l4 l5 l6 l7 : Option PV} {st : List PV} {M : Mem} {Q : Option PV → Mem → Prop} {x y : Int32} : WP d 221 141 [l0, l1, l2, l3, l4, l5, l6, l7] (vi y :: vi x :: st) M Q = WP d 221 142 [l0, l1, l2, l3, l4, l5, l6, l7] (vi (x + y) :: st) M Q := w1 mC_221 d221_141 rfl rfl
theorem d221_142 : decode cX12_drawn 142 = .ok (.iconst (-1), 1) := by decide +kernel
theorem k221_142 {d : Nat} {l0 l1 l2 l3 l4 l5 l6 l7 : Option PV} {st : List PV} {M : Mem} {Q : Option PV → Mem → Prop} : WP d 221 142 [l0, l1, l2, l3, l4, l5, l6, l7] (st) M Q = WP d 221 143 [l0, l1, l2, l3, l4, l5, l6, l7] (vi (-1) :: st) M Q := w_iconst mC_221 d221_142 (by decide)
theorem d221_143 : decode cX12_drawn 143 = .ok (.iastore, 1) := by decide +kernel
theorem k221_143 {d : Nat} {l0 l1 l2 l3 l4 l5 l6 l7 : Option PV} {st : List PV} {M : Mem} {Q : Option PV → Mem → Prop} {r : Nat} {j x : Int32} (hk : mK M r = 13) (hj : inb j (mN M r)) (h1 : r ≠ 1) : WP d 221 143 [l0, l1, l2, l3, l4, l5, l6, l7] (vi x :: vi j :: vr r :: st) M Q = WP d 221 144 [l0, l1, l2, l3, l4, l5, l6, l7] (st) (sI M r (ix j) x) Q := w_iast mC_221 d221_143 hk hj h1
theorem d221_144 : decode cX12_drawn 144 = .ok (.aload_n 0, 1) := by decide +kernel
theorem k221_144 {d x : Nat} {l1 l2 l3 l4 l5 l6 l7 : Option PV} {st : List PV} {M : Mem} {Q : Option PV → Mem → Prop} : WP d 221 144 [some (vr x), l1, l2, l3, l4, l5, l6, l7] (st) M Q = WP d 221 145 [some (vr x), l1, l2, l3, l4, l5, l6, l7] (vr x :: st) M Q := w1 mC_221 d221_144 rfl rfl
theorem d221_145 : decode cX12_drawn 145 = .ok (.getfield 9, 3) := by decide +kernel
theorem k221_145 {d : Nat} {l0 l1 l2 l3 l4 l5 l6 l7 : Option PV} {st : List PV} {M : Mem} {Q : Option PV → Mem → Prop} {r : Nat} (hk : mK M r = 12) : WP d 221 145 [l0, l1, l2, l3, l4, l5, l6, l7] (vr r :: st) M Q = WP d 221 148 [l0, l1, l2, l3, l4, l5, l6, l7] (vr (mR M r 2) :: st) M Q := w_getr mC_221 d221_145 fE_12_9 rfl (by rw [hk]; rfl)
theorem d221_148 : decode cX12_drawn 148 = .ok (.bipush 40, 2) := by decide +kernel
theorem k221_148 {d : Nat} {l0 l1 l2 l3 l4 l5 l6 l7 : Option PV} {st : List PV} {M : Mem} {Q : Option PV → Mem → Prop} : WP d 221 148 [l0, l1, l2, l3, l4, l5, l6, l7] (st) M Q = WP d 221 150 [l0, l1, l2, l3, l4, l5, l6, l7] (vi 40 :: st) M Q := w_bipush mC_221 d221_148 (by decide)
theorem d221_150 : decode cX12_drawn 150 = .ok (.iload 4, 2) := by decide +kernel
theorem k221_150 {d : Nat} {x : Int32} {l0 l1 l2 l3 l5 l6 l7 : Option PV} {st : List PV} {M : Mem} {Q : Option PV → Mem → Prop} : WP d 221 150 [l0, l1, l2, l3, some (vi x), l5, l6, l7] (st) M Q = WP d 221 152 [l0, l1, l2, l3, some (vi x), l5, l6, l7] (vi x :: st) M Q := w1 mC_221 d221_150 rfl rfl
theorem d221_152 : decode cX12_drawn 152 = .ok (.bipush 8, 2) := by decide +kernel
theorem k221_152 {d : Nat} {l0 l1 l2 l3 l4 l5 l6 l7 : Option PV} {st : List PV} {M : Mem} {Q : Option PV → Mem → Prop} : WP d 221 152 [l0, l1, l2, l3, l4, l5, l6, l7] (st) M Q = WP d 221 154 [l0, l1, l2, l3, l4, l5, l6, l7] (vi 8 :: st) M Q := w_bipush mC_221 d221_152 (by decide)
theorem d221_154 : decode cX12_drawn 154 = .ok (.iushr, 1) := by decide +kernel
theorem k221_154 {d : Nat} {l0 l1 l2 l3 l4 l5 l6 l7 : Option PV} {st : List PV} {M : Mem} {Q : Option PV → Mem → Prop} {x y : Int32} : WP d 221 154 [l0, l1, l2, l3, l4, l5, l6, l7] (vi y :: vi x :: st) M Q = WP d 221 155 [l0, l1, l2, l3, l4, l5, l6, l7] (vi ((x.toUInt32 >>> (y.toUInt32 &&& Int32.toUInt32 31)).toInt32) :: st) M Q := w1 mC_221 d221_154 rfl rfl
theorem d221_155 : decode cX12_drawn 155 = .ok (.aload_n 0, 1) := by decide +kernel
theorem k221_155 {d x : Nat} {l1 l2 l3 l4 l5 l6 l7 : Option PV} {st : List PV} {M : Mem} {Q : Option PV → Mem → Prop} : WP d 221 155 [some (vr x), l1, l2, l3, l4, l5, l6, l7] (st) M Q = WP d 221 156 [some (vr x), l1, l2, l3, l4, l5, l6, l7] (vr x :: st) M Q := w1 mC_221 d221_155 rfl rfl
theorem d221_156 : decode cX12_drawn 156 = .ok (.getfield 108, 3) := by decide +kernel
theorem k221_156 {d : Nat} {l0 l1 l2 l3 l4 l5 l6 l7 : Option PV} {st : List PV} {M : Mem} {Q : Option PV → Mem → Prop} {r : Nat} (hk : mK M r = 12) : WP d 221 156 [l0, l1, l2, l3, l4, l5, l6, l7] (vr r :: st) M Q = WP d 221 159 [l0, l1, l2, l3, l4, l5, l6, l7] (vi (mI M r 1) :: st) M Q := w_get mC_221 d221_156 fE_12_108 rfl (by rw [hk]; rfl)
theorem d221_159 : decode cX12_drawn 159 = .ok (.irem, 1) := by decide +kernel
theorem k221_159 {d : Nat} {l0 l1 l2 l3 l4 l5 l6 l7 : Option PV} {st : List PV} {M : Mem} {Q : Option PV → Mem → Prop} {x y : Int32} (h : y ≠ 0) : WP d 221 159 [l0, l1, l2, l3, l4, l5, l6, l7] (vi y :: vi x :: st) M Q = WP d 221 160 [l0, l1, l2, l3, l4, l5, l6, l7] (vi (x % y) :: st) M Q := w_rem mC_221 d221_159 h
theorem d221_160 : decode cX12_drawn 160 = .ok (.iadd, 1) := by decide +kernel
theorem k221_160 {d : Nat} {l0 l1 l2 l3 l4 l5 l6 l7 : Option PV} {st : List PV} {M : Mem} {Q : Option PV → Mem → Prop} {x y : Int32} : WP d 221 160 [l0, l1, l2, l3, l4, l5, l6, l7] (vi y :: vi x :: st) M Q = WP d 221 161 [l0, l1, l2, l3, l4, l5, l6, l7] (vi (x + y) :: st) M Q := w1 mC_221 d221_160 rfl rfl
theorem d221_161 : decode cX12_drawn 161 = .ok (.iconst 0, 1) := by decide +kernel
theorem k221_161 {d : Nat} {l0 l1 l2 l3 l4 l5 l6 l7 : Option PV} {st : List PV} {M : Mem} {Q : Option PV → Mem → Prop} : WP d 221 161 [l0, l1, l2, l3, l4, l5, l6, l7] (st) M Q = WP d 221 162 [l0, l1, l2, l3, l4, l5, l6, l7] (vi 0 :: st) M Q := w_iconst mC_221 d221_161 (by decide)
theorem d221_162 : decode cX12_drawn 162 = .ok (.iastore, 1) := by decide +kernel
theorem k221_162 {d : Nat} {l0 l1 l2 l3 l4 l5 l6 l7 : Option PV} {st : List PV} {M : Mem} {Q : Option PV → Mem → Prop} {r : Nat} {j x : Int32} (hk : mK M r = 13) (hj : inb j (mN M r)) (h1 : r ≠ 1) : WP d 221 162 [l0, l1, l2, l3, l4, l5, l6, l7] (vi x :: vi j :: vr r :: st) M Q = WP d 221 163 [l0, l1, l2, l3, l4, l5, l6, l7] (st) (sI M r (ix j) x) Q := w_iast mC_221 d221_162 hk hj h1
theorem d221_163 : decode cX12_drawn 163 = .ok (.aload_n 0, 1) := by decide +kernel
theorem k221_163 {d x : Nat} {l1 l2 l3 l4 l5 l6 l7 : Option PV} {st : List PV} {M : Mem} {Q : Option PV → Mem → Prop} : WP d 221 163 [some (vr x), l1, l2, l3, l4, l5, l6, l7] (st) M Q = WP d 221 164 [some (vr x), l1, l2, l3, l4, l5, l6, l7] (vr x :: st) M Q := w1 mC_221 d221_163 rfl rfl
theorem d221_164 : decode cX12_drawn 164 = .ok (.invokevirtual 265, 3) := by decide +kernel
theorem k221_164 {d : Nat} {l0 l1 l2 l3 l4 l5 l6 l7 : Option PV} {st : List PV} {M : Mem} {Q : Option PV → Mem → Prop} {r : Nat} (hl : szL st ≤ 8) (hk : mK M r = 12) : WP (d + 1) 221 164 [l0, l1, l2, l3, l4, l5, l6, l7] (vr r :: st) M Q = WP d 188 0 [some (vr r), none] [] M (fun v M' => WP (d + 1) 221 167 [l0, l1, l2, l3, l4, l5, l6, l7] (psh v st) M' Q) := w_callV mC_221 d221_164 (ci := 12) rfl rfl rfl (Nat.le_of_ble_eq_true rfl) (by decide) rfl hl hk
theorem d221_167 : decode cX12_drawn 167 = .ok (.iinc 7 1, 3) := by decide +kernel
theorem k221_167 {d : Nat} {x : Int32} {l0 l1 l2 l3 l4 l5 l6 : Option PV} {st : List PV} {M : Mem} {Q : Option PV → Mem → Prop} : WP d 221 167 [l0, l1, l2, l3, l4, l5, l6, some (vi x)] (st) M Q = WP d 221 170 [l0, l1, l2, l3, l4, l5, l6, some (vi (x + 1))] (st) M Q := w_iinc mC_221 d221_167 rfl (by decide) rfl
theorem d221_170 : decode cX12_drawn 170 = .ok (.goto (-91), 3) := by decide +kernel
theorem k221_170 {d : Nat} {l0 l1 l2 l3 l4 l5 l6 l7 : Option PV} {st : List PV} {M : Mem} {Q : Option PV → Mem → Prop} : WP d 221 170 [l0, l1, l2, l3, l4, l5, l6, l7] (st) M Q = WP d 221 79 [l0, l1, l2, l3, l4, l5, l6, l7] (st) M Q := w_goto mC_221 d221_170 (by decide)
theorem d221_173 : decode cX12_drawn 173 = .ok (.iload 5, 2) := by decide +kernel
theorem k221_173 {d : Nat} {x : Int32} {l0 l1 l2 l3 l4 l6 l7 : Option PV} {st : List PV} {M : Mem} {Q : Option PV → Mem → Prop} : WP d 221 173 [l0, l1, l2, l3, l4, some (vi x), l6, l7] (st) M Q = WP d 221 175 [l0, l1, l2, l3, l4, some (vi x), l6, l7] (vi x :: st) M Q := w1 mC_221 d221_173 rfl rfl
theorem d221_175 : decode cX12_drawn 175 = .ok (.iload_n 3, 1) := by decide +kernel
theorem k221_175 {d : Nat} {x : Int32} {l0 l1 l2 l4 l5 l6 l7 : Option PV} {st : List PV} {M : Mem} {Q : Option PV → Mem → Prop} : WP d 221 175 [l0, l1, l2, some (vi x), l4, l5, l6, l7] (st) M Q = WP d 221 176 [l0, l1, l2, some (vi x), l4, l5, l6, l7] (vi x :: st) M Q := w1 mC_221 d221_175 rfl rfl
theorem d221_176 : decode cX12_drawn 176 = .ok (.iconst (-1), 1) := by decide +kernel
theorem k221_176 {d : Nat} {l0 l1 l2 l3 l4 l5 l6 l7 : Option PV} {st : List PV} {M : Mem} {Q : Option PV → Mem → Prop} : WP d 221 176 [l0, l1, l2, l3, l4, l5, l6, l7] (st) M Q = WP d 221 177 [l0, l1, l2, l3, l4, l5, l6, l7] (vi (-1) :: st) M Q := w_iconst mC_221 d221_176 (by decide)
theorem d221_177 : decode cX12_drawn 177 = .ok (.if_icmp .ne 13, 3) := by decide +kernel
theorem k221_177 {d : Nat} {l0 l1 l2 l3 l4 l5 l6 l7 : Option PV} {st : List PV} {M : Mem} {Q : Option PV → Mem → Prop} {x y : Int32} : WP d 221 177 [l0, l1, l2, l3, l4, l5, l6, l7] (vi y :: vi x :: st) M Q = (if x = y then WP d 221 180 [l0, l1, l2, l3, l4, l5, l6, l7] (st) M Q else WP d 221 190 [l0, l1, l2, l3, l4, l5, l6, l7] (st) M Q) := w_ic_ne mC_221 d221_177 (by decide)
theorem d221_180 : decode cX12_drawn 180 = .ok (.aload_n 0, 1) := by decide +kernel
theorem k221_180 {d x : Nat} {l1 l2 l3 l4 l5 l6 l7 : Option PV} {st : List PV} {M : Mem} {Q : Option PV → Mem → Prop} : WP d 221 180 [some (vr x), l1, l2, l3, l4, l5, l6, l7] (st) M Q = WP d 221 181 [some (vr x), l1, l2, l3, l4, l5, l6, l7] (vr x :: st) M Q := w1 mC_221 d221_180 rfl rfl
theorem d221_181 : decode cX12_drawn 181 = .ok (.invokevirtual 281, 3) := by decide +kernel
theorem k221_181 {d : Nat} {l0 l1 l2 l3 l4 l5 l6 l7 : Option PV} {st : List PV} {M : Mem} {Q : Option PV → Mem → Prop} {r : Nat} (hl : szL st ≤ 8) (hk : mK M r = 12) : WP (d + 1) 221 181 [l0, l1, l2, l3, l4, l5, l6, l7] (vr r :: st) M Q = WP d 193 0 [some (vr r), none, none] [] M (fun v M' => WP (d + 1) 221 184 [l0, l1, l2, l3, l4, l5, l6, l7] (psh v st) M' Q) := w_callV mC_221 d221_181 (ci := 12) rfl rfl rfl (Nat.le_of_ble_eq_true rfl) (by decide) rfl hl hk
theorem d221_184 : decode cX12_drawn 184 = .ok (.invokestatic 308, 3) := by decide +kernel
theorem k221_184 {d : Nat} {l0 l1 l2 l3 l4 l5 l6 l7 : Option PV} {st : List PV} {M : Mem} {Q : Option PV → Mem → Prop} {a0 : Int32} (hl : szL st ≤ 8) : WP (d + 1) 221 184 [l0, l1, l2, l3, l4, l5, l6, l7] (vi a0 :: st) M Q = WP d 247 0 [some (vi a0)] [] M (fun v M' => WP (d + 1) 221 187 [l0, l1, l2, l3, l4, l5, l6, l7] (psh v st) M' Q) := w_callS mC_221 d221_184 rfl rfl (Nat.le_of_ble_eq_true rfl) (by decide) rfl hl
theorem d221_187 : decode cX12_drawn 187 = .ok (.goto 12, 3) := by decide +kernel
theorem k221_187 {d : Nat} {l0 l1 l2 l3 l4 l5 l6 l7 : Option PV} {st : List PV} {M : Mem} {Q : Option PV → Mem → Prop} : WP d 221 187 [l0, l1, l2, l3, l4, l5, l6, l7] (st) M Q = WP d 221 199 [l0, l1, l2, l3, l4, l5, l6, l7] (st) M Q := w_goto mC_221 d221_187 (by decide)
theorem d221_190 : decode cX12_drawn 190 = .ok (.aload_n 0, 1) := by decide +kernel
theorem k221_190 {d x : Nat} {l1 l2 l3 l4 l5 l6 l7 : Option PV} {st : List PV} {M : Mem} {Q : Option PV → Mem → Prop} : WP d 221 190 [some (vr x), l1, l2, l3, l4, l5, l6, l7] (st) M Q = WP d 221 191 [some (vr x), l1, l2, l3, l4, l5, l6, l7] (vr x :: st) M Q := w1 mC_221 d221_190 rfl rfl
theorem d221_191 : decode cX12_drawn 191 = .ok (.getfield 9, 3) := by decide +kernel
theorem k221_191 {d : Nat} {l0 l1 l2 l3 l4 l5 l6 l7 : Option PV} {st : List PV} {M : Mem} {Q : Option PV → Mem → Prop} {r : Nat} (hk : mK M r = 12) : WP d 221 191 [l0, l1, l2, l3, l4, l5, l6, l7] (vr r :: st) M Q = WP d 221 194 [l0, l1, l2, l3, l4, l5, l6, l7] (vr (mR M r 2) :: st) M Q := w_getr mC_221 d221_191 fE_12_9 rfl (by rw [hk]; rfl)
theorem d221_194 : decode cX12_drawn 194 = .ok (.bipush 8, 2) := by decide +kernel
theorem k221_194 {d : Nat} {l0 l1 l2 l3 l4 l5 l6 l7 : Option PV} {st : List PV} {M : Mem} {Q : Option PV → Mem → Prop} : WP d 221 194 [l0, l1, l2, l3, l4, l5, l6, l7] (st) M Q = WP d 221 196 [l0, l1, l2, l3, l4, l5, l6, l7] (vi 8 :: st) M Q := w_bipush mC_221 d221_194 (by decide)
theorem d221_196 : decode cX12_drawn 196 = .ok (.iload_n 3, 1) := by decide +kernel
theorem k221_196 {d : Nat} {x : Int32} {l0 l1 l2 l4 l5 l6 l7 : Option PV} {st : List PV} {M : Mem} {Q : Option PV → Mem → Prop} : WP d 221 196 [l0, l1, l2, some (vi x), l4, l5, l6, l7] (st) M Q = WP d 221 197 [l0, l1, l2, some (vi x), l4, l5, l6, l7] (vi x :: st) M Q := w1 mC_221 d221_196 rfl rfl
theorem d221_197 : decode cX12_drawn 197 = .ok (.iadd, 1) := by decide +kernel
theorem k221_197 {d : Nat} {l0 l1 l2 l3 l4 l5 l6 l7 : Option PV} {st : List PV} {M : Mem} {Q : Option PV → Mem → Prop} {x y : Int32} : WP d 221 197 [l0, l1, l2, l3, l4, l5, l6, l7] (vi y :: vi x :: st) M Q = WP d 221 198 [l0, l1, l2, l3, l4, l5, l6, l7] (vi (x + y) :: st) M Q := w1 mC_221 d221_197 rfl rfl
theorem d221_198 : decode cX12_drawn 198 = .ok (.iaload, 1) := by decide +kernel
theorem k221_198 {d : Nat} {l0 l1 l2 l3 l4 l5 l6 l7 : Option PV} {st : List PV} {M : Mem} {Q : Option PV → Mem → Prop} {r : Nat} {j : Int32} (hk : mK M r = 13) (hj : inb j (mN M r)) (h1 : r ≠ 1) : WP d 221 198 [l0, l1, l2, l3, l4, l5, l6, l7] (vi j :: vr r :: st) M Q = WP d 221 199 [l0, l1, l2, l3, l4, l5, l6, l7] (vi (mI M r (ix j)) :: st) M Q := w_iald mC_221 d221_198 (by decide) hk hj h1
theorem d221_199 : decode cX12_drawn 199 = .ok (.iadd, 1) := by decide +kernel
theorem k221_199 {d : Nat} {l0 l1 l2 l3 l4 l5 l6 l7 : Option PV} {st : List PV} {M : Mem} {Q : Option PV → Mem → Prop} {x y : Int32} : WP d 221 199 [l0, l1, l2, l3, l4, l5, l6, l7] (vi y :: vi x :: st) M Q = WP d 221 200 [l0, l1, l2, l3, l4, l5, l6, l7] (vi (x + y) :: st) M Q := w1 mC_221 d221_199 rfl rfl
theorem d221_200 : decode cX12_drawn 200 = .ok (.istore 5, 2) := by decide +kernel
theorem k221_200 {d : Nat} {l0 l1 l2 l3 l4 l5 l6 l7 : Option PV} {st : List PV} {M : Mem} {Q : Option PV → Mem → Prop} {x : Int32} : WP d 221 200 [l0, l1, l2, l3, l4, l5, l6, l7] (vi x :: st) M Q = WP d 221 202 [l0, l1, l2, l3, l4, some (vi x), l6, l7] (st) M Q := w1 mC_221 d221_200 rfl rfl
theorem d221_202 : decode cX12_drawn 202 = .ok (.aload_n 0, 1) := by decide +kernel
theorem k221_202 {d x : Nat} {l1 l2 l3 l4 l5 l6 l7 : Option PV} {st : List PV} {M : Mem} {Q : Option PV → Mem → Prop} : WP d 221 202 [some (vr x), l1, l2, l3, l4, l5, l6, l7] (st) M Q = WP d 221 203 [some (vr x), l1, l2, l3, l4, l5, l6, l7] (vr x :: st) M Q := w1 mC_221 d221_202 rfl rfl
theorem d221_203 : decode cX12_drawn 203 = .ok (.aload_n 0, 1) := by decide +kernel
theorem k221_203 {d x : Nat} {l1 l2 l3 l4 l5 l6 l7 : Option PV} {st : List PV} {M : Mem} {Q : Option PV → Mem → Prop} : WP d 221 203 [some (vr x), l1, l2, l3, l4, l5, l6, l7] (st) M Q = WP d 221 204 [some (vr x), l1, l2, l3, l4, l5, l6, l7] (vr x :: st) M Q := w1 mC_221 d221_203 rfl rfl
theorem d221_204 : decode cX12_drawn 204 = .ok (.getfield 82, 3) := by decide +kernel
theorem k221_204 {d : Nat} {l0 l1 l2 l3 l4 l5 l6 l7 : Option PV} {st : List PV} {M : Mem} {Q : Option PV → Mem → Prop} {r : Nat} (hk : mK M r = 12) : WP d 221 204 [l0, l1, l2, l3, l4, l5, l6, l7] (vr r :: st) M Q = WP d 221 207 [l0, l1, l2, l3, l4, l5, l6, l7] (vr (mR M r 41) :: st) M Q := w_getr mC_221 d221_204 fE_12_82 rfl (by rw [hk]; rfl)
theorem d221_207 : decode cX12_drawn 207 = .ok (.bipush 8, 2) := by decide +kernel
theorem k221_207 {d : Nat} {l0 l1 l2 l3 l4 l5 l6 l7 : Option PV} {st : List PV} {M : Mem} {Q : Option PV → Mem → Prop} : WP d 221 207 [l0, l1, l2, l3, l4, l5, l6, l7] (st) M Q = WP d 221 209 [l0, l1, l2, l3, l4, l5, l6, l7] (vi 8 :: st) M Q := w_bipush mC_221 d221_207 (by decide)
theorem d221_209 : decode cX12_drawn 209 = .ok (.bipush 8, 2) := by decide +kernel
theorem k221_209 {d : Nat} {l0 l1 l2 l3 l4 l5 l6 l7 : Option PV} {st : List PV} {M : Mem} {Q : Option PV → Mem → Prop} : WP d 221 209 [l0, l1, l2, l3, l4, l5, l6, l7] (st) M Q = WP d 221 211 [l0, l1, l2, l3, l4, l5, l6, l7] (vi 8 :: st) M Q := w_bipush mC_221 d221_209 (by decide)
theorem d221_211 : decode cX12_drawn 211 = .ok (.invokevirtual 268, 3) := by decide +kernel
theorem k221_211 {d : Nat} {l0 l1 l2 l3 l4 l5 l6 l7 : Option PV} {st : List PV} {M : Mem} {Q : Option PV → Mem → Prop} {a1 a2 : Int32} {a0 : Nat} {r : Nat} (hl : szL st ≤ 8) (hk : mK M r = 12) : WP (d + 1) 221 211 [l0, l1, l2, l3, l4, l5, l6, l7] (vi a2 :: vi a1 :: vr a0 :: vr r :: st) M Q = WP d 191 0 [some (vr r), some (vr a0), some (vi a1), some (vi a2), none] [] M (fun v M' => WP (d + 1) 221 214 [l0, l1, l2, l3, l4, l5, l6, l7] (psh v st) M' Q) := w_callV mC_221 d221_211 (ci := 12) rfl rfl rfl (Nat.le_of_ble_eq_true rfl) (by decide) rfl hl hk
theorem d221_214 : decode cX12_drawn 214 = .ok (.iinc 6 1, 3) := by decide +kernel
theorem k221_214 {d : Nat} {x : Int32} {l0 l1 l2 l3 l4 l5 l7 : Option PV} {st : List PV} {M : Mem} {Q : Option PV → Mem → Prop} : WP d 221 214 [l0, l1, l2, l3, l4, l5, some (vi x), l7] (st) M Q = WP d 221 217 [l0, l1, l2, l3, l4, l5, some (vi (x + 1)), l7] (st) M Q := w_iinc mC_221 d221_214 rfl (by decide) rfl
theorem d221_217 : decode cX12_drawn 217 = .ok (.goto (-151), 3) := by decide +kernel
theorem k221_217 {d : Nat} {l0 l1 l2 l3 l4 l5 l6 l7 : Option PV} {st : List PV} {M : Mem} {Q : Option PV → Mem → Prop} : WP d 221 217 [l0, l1, l2, l3, l4, l5, l6, l7] (st) M Q = WP d 221 66 [l0, l1, l2, l3, l4, l5, l6, l7] (st) M Q := w_goto mC_221 d221_217 (by decide)
theorem d221_220 : decode cX12_drawn 220 = .ok (.iload 5, 2) := by decide +kernel
theorem k221_220 {d : Nat} {x : Int32} {l0 l1 l2 l3 l4 l6 l7 : Option PV} {st : List PV} {M : Mem} {Q : Option PV → Mem → Prop} : WP d 221 220 [l0, l1, l2, l3, l4, some (vi x), l6, l7] (st) M Q = WP d 221 222 [l0, l1, l2, l3, l4, some (vi x), l6, l7] (vi x :: st) M Q := w1 mC_221 d221_220 rfl rfl
theorem d221_222 : decode cX12_drawn 222 = .ok (.ireturn, 1) := by decide +kernel
theorem k221_222 {d : Nat} {l0 l1 l2 l3 l4 l5 l6 l7 : Option PV} {M : Mem} {Q : Option PV → Mem → Prop} {x : Int32} : WP d 221 222 [l0, l1, l2, l3, l4, l5, l6, l7] ([vi x]) M Q = Q (some (vi x)) M := w_iret mC_221 d221_222 rfl
theorem d222_0 : decode cX12_hour 0 = .ok (.aload_n 0, 1) := by decide +kernel
theorem k222_0 {d x : Nat} {l1 : Option PV} {st : List PV} {M : Mem} {Q : Option PV → Mem → Prop} : WP d 222 0 [some (vr x), l1] (st) M Q = WP d 222 1 [some (vr x), l1] (vr x :: st) M Q := w1 mC_222 d222_0 rfl rfl
theorem d222_1 : decode cX12_hour 1 = .ok (.invokevirtual 265, 3) := by decide +kernel
theorem k222_1 {d : Nat} {l0 l1 : Option PV} {st : List PV} {M : Mem} {Q : Option PV → Mem → Prop} {r : Nat} (hl : szL st ≤ 8) (hk : mK M r = 12) : WP (d + 1) 222 1 [l0, l1] (vr r :: st) M Q = WP d 188 0 [some (vr r), none] [] M (fun v M' => WP (d + 1) 222 4 [l0, l1] (psh v st) M' Q) := w_callV mC_222 d222_1 (ci := 12) rfl rfl rfl (Nat.le_of_ble_eq_true rfl) (by decide) rfl hl hk
theorem d222_4 : decode cX12_hour 4 = .ok (.aload_n 0, 1) := by decide +kernel
theorem k222_4 {d x : Nat} {l1 : Option PV} {st : List PV} {M : Mem} {Q : Option PV → Mem → Prop} : WP d 222 4 [some (vr x), l1] (st) M Q = WP d 222 5 [some (vr x), l1] (vr x :: st) M Q := w1 mC_222 d222_4 rfl rfl
theorem d222_5 : decode cX12_hour 5 = .ok (.getfield 258, 3) := by decide +kernel
theorem k222_5 {d : Nat} {l0 l1 : Option PV} {st : List PV} {M : Mem} {Q : Option PV → Mem → Prop} {r : Nat} (hk : mK M r = 12) : WP d 222 5 [l0, l1] (vr r :: st) M Q = WP d 222 8 [l0, l1] (vi (mI M r 39) :: st) M Q := w_get mC_222 d222_5 fE_12_258 rfl (by rw [hk]; rfl)
theorem d222_8 : decode cX12_hour 8 = .ok (.invokestatic 308, 3) := by decide +kernel
theorem k222_8 {d : Nat} {l0 l1 : Option PV} {st : List PV} {M : Mem} {Q : Option PV → Mem → Prop} {a0 : Int32} (hl : szL st ≤ 8) : WP (d + 1) 222 8 [l0, l1] (vi a0 :: st) M Q = WP d 247 0 [some (vi a0)] [] M (fun v M' => WP (d + 1) 222 11 [l0, l1] (psh v st) M' Q) := w_callS mC_222 d222_8 rfl rfl (Nat.le_of_ble_eq_true rfl) (by decide) rfl hl
theorem d222_11 : decode cX12_hour 11 = .ok (.istore_n 1, 1) := by decide +kernel
theorem k222_11 {d : Nat} {l0 l1 : Option PV} {st : List PV} {M : Mem} {Q : Option PV → Mem → Prop} {x : Int32} : WP d 222 11 [l0, l1] (vi x :: st) M Q = WP d 222 12 [l0, some (vi x)] (st) M Q := w1 mC_222 d222_11 rfl rfl
theorem d222_12 : decode cX12_hour 12 = .ok (.aload_n 0, 1) := by decide +kernel
theorem k222_12 {d x : Nat} {l1 : Option PV} {st : List PV} {M : Mem} {Q : Option PV → Mem → Prop} : WP d 222 12 [some (vr x), l1] (st) M Q = WP d 222 13 [some (vr x), l1] (vr x :: st) M Q := w1 mC_222 d222_12 rfl rfl
theorem d222_13 : decode cX12_hour 13 = .ok (.getfield 51, 3) := by decide +kernel
theorem k222_13 {d : Nat} {l0 l1 : Option PV} {st : List PV} {M : Mem} {Q : Option PV → Mem → Prop} {r : Nat} (hk : mK M r = 12) : WP d 222 13 [l0, l1] (vr r :: st) M Q = WP d 222 16 [l0, l1] (vr (mR M r 22) :: st) M Q := w_getr mC_222 d222_13 fE_12_51 rfl (by rw [hk]; rfl)
theorem d222_16 : decode cX12_hour 16 = .ok (.iconst 0, 1) := by decide +kernel
theorem k222_16 {d : Nat} {l0 l1 : Option PV} {st : List PV} {M : Mem} {Q : Option PV → Mem → Prop} : WP d 222 16 [l0, l1] (st) M Q = WP d 222 17 [l0, l1] (vi 0 :: st) M Q := w_iconst mC_222 d222_16 (by decide)
theorem d222_17 : decode cX12_hour 17 = .ok (.dup2, 1) := by decide +kernel
theorem k222_17 {d : Nat} {l0 l1 : Option PV} {st : List PV} {M : Mem} {Q : Option PV → Mem → Prop} {a : Int32} {b : Nat} : WP d 222 17 [l0, l1] (vi a :: vr b :: st) M Q = WP d 222 18 [l0, l1] (vi a :: vr b :: vi a :: vr b :: st) M Q := w1 mC_222 d222_17 rfl rfl
theorem d222_18 : decode cX12_hour 18 = .ok (.iaload, 1) := by decide +kernel
theorem k222_18 {d : Nat} {l0 l1 : Option PV} {st : List PV} {M : Mem} {Q : Option PV → Mem → Prop} {r : Nat} {j : Int32} (hk : mK M r = 13) (hj : inb j (mN M r)) (h1 : r ≠ 1) : WP d 222 18 [l0, l1] (vi j :: vr r :: st) M Q = WP d 222 19 [l0, l1] (vi (mI M r (ix j)) :: st) M Q := w_iald mC_222 d222_18 (by decide) hk hj h1
theorem d222_19 : decode cX12_hour 19 = .ok (.iconst 1, 1) := by decide +kernel
theorem k222_19 {d : Nat} {l0 l1 : Option PV} {st : List PV} {M : Mem} {Q : Option PV → Mem → Prop} : WP d 222 19 [l0, l1] (st) M Q = WP d 222 20 [l0, l1] (vi 1 :: st) M Q := w_iconst mC_222 d222_19 (by decide)
theorem d222_20 : decode cX12_hour 20 = .ok (.iadd, 1) := by decide +kernel
theorem k222_20 {d : Nat} {l0 l1 : Option PV} {st : List PV} {M : Mem} {Q : Option PV → Mem → Prop} {x y : Int32} : WP d 222 20 [l0, l1] (vi y :: vi x :: st) M Q = WP d 222 21 [l0, l1] (vi (x + y) :: st) M Q := w1 mC_222 d222_20 rfl rfl
theorem d222_21 : decode cX12_hour 21 = .ok (.iastore, 1) := by decide +kernel
theorem k222_21 {d : Nat} {l0 l1 : Option PV} {st : List PV} {M : Mem} {Q : Option PV → Mem → Prop} {r : Nat} {j x : Int32} (hk : mK M r = 13) (hj : inb j (mN M r)) (h1 : r ≠ 1) : WP d 222 21 [l0, l1] (vi x :: vi j :: vr r :: st) M Q = WP d 222 22 [l0, l1] (st) (sI M r (ix j) x) Q := w_iast mC_222 d222_21 hk hj h1
theorem d222_22 : decode cX12_hour 22 = .ok (.aload_n 0, 1) := by decide +kernel
theorem k222_22 {d x : Nat} {l1 : Option PV} {st : List PV} {M : Mem} {Q : Option PV → Mem → Prop} : WP d 222 22 [some (vr x), l1] (st) M Q = WP d 222 23 [some (vr x), l1] (vr x :: st) M Q := w1 mC_222 d222_22 rfl rfl
theorem d222_23 : decode cX12_hour 23 = .ok (.getfield 51, 3) := by decide +kernel
theorem k222_23 {d : Nat} {l0 l1 : Option PV} {st : List PV} {M : Mem} {Q : Option PV → Mem → Prop} {r : Nat} (hk : mK M r = 12) : WP d 222 23 [l0, l1] (vr r :: st) M Q = WP d 222 26 [l0, l1] (vr (mR M r 22) :: st) M Q := w_getr mC_222 d222_23 fE_12_51 rfl (by rw [hk]; rfl)
theorem d222_26 : decode cX12_hour 26 = .ok (.iconst 2, 1) := by decide +kernel
theorem k222_26 {d : Nat} {l0 l1 : Option PV} {st : List PV} {M : Mem} {Q : Option PV → Mem → Prop} : WP d 222 26 [l0, l1] (st) M Q = WP d 222 27 [l0, l1] (vi 2 :: st) M Q := w_iconst mC_222 d222_26 (by decide)
theorem d222_27 : decode cX12_hour 27 = .ok (.dup2, 1) := by decide +kernel
theorem k222_27 {d : Nat} {l0 l1 : Option PV} {st : List PV} {M : Mem} {Q : Option PV → Mem → Prop} {a : Int32} {b : Nat} : WP d 222 27 [l0, l1] (vi a :: vr b :: st) M Q = WP d 222 28 [l0, l1] (vi a :: vr b :: vi a :: vr b :: st) M Q := w1 mC_222 d222_27 rfl rfl
theorem d222_28 : decode cX12_hour 28 = .ok (.iaload, 1) := by decide +kernel
theorem k222_28 {d : Nat} {l0 l1 : Option PV} {st : List PV} {M : Mem} {Q : Option PV → Mem → Prop} {r : Nat} {j : Int32} (hk : mK M r = 13) (hj : inb j (mN M r)) (h1 : r ≠ 1) : WP d 222 28 [l0, l1] (vi j :: vr r :: st) M Q = WP d 222 29 [l0, l1] (vi (mI M r (ix j)) :: st) M Q := w_iald mC_222 d222_28 (by decide) hk hj h1
theorem d222_29 : decode cX12_hour 29 = .ok (.aload_n 0, 1) := by decide +kernel
theorem k222_29 {d x : Nat} {l1 : Option PV} {st : List PV} {M : Mem} {Q : Option PV → Mem → Prop} : WP d 222 29 [some (vr x), l1] (st) M Q = WP d 222 30 [some (vr x), l1] (vr x :: st) M Q := w1 mC_222 d222_29 rfl rfl
theorem d222_30 : decode cX12_hour 30 = .ok (.getfield 252, 3) := by decide +kernel
theorem k222_30 {d : Nat} {l0 l1 : Option PV} {st : List PV} {M : Mem} {Q : Option PV → Mem → Prop} {r : Nat} (hk : mK M r = 12) : WP d 222 30 [l0, l1] (vr r :: st) M Q = WP d 222 33 [l0, l1] (vi (mI M r 38) :: st) M Q := w_get mC_222 d222_30 fE_12_252 rfl (by rw [hk]; rfl)
theorem d222_33 : decode cX12_hour 33 = .ok (.iadd, 1) := by decide +kernel
theorem k222_33 {d : Nat} {l0 l1 : Option PV} {st : List PV} {M : Mem} {Q : Option PV → Mem → Prop} {x y : Int32} : WP d 222 33 [l0, l1] (vi y :: vi x :: st) M Q = WP d 222 34 [l0, l1] (vi (x + y) :: st) M Q := w1 mC_222 d222_33 rfl rfl
theorem d222_34 : decode cX12_hour 34 = .ok (.iastore, 1) := by decide +kernel
theorem k222_34 {d : Nat} {l0 l1 : Option PV} {st : List PV} {M : Mem} {Q : Option PV → Mem → Prop} {r : Nat} {j x : Int32} (hk : mK M r = 13) (hj : inb j (mN M r)) (h1 : r ≠ 1) : WP d 222 34 [l0, l1] (vi x :: vi j :: vr r :: st) M Q = WP d 222 35 [l0, l1] (st) (sI M r (ix j) x) Q := w_iast mC_222 d222_34 hk hj h1
theorem d222_35 : decode cX12_hour 35 = .ok (.aload_n 0, 1) := by decide +kernel
theorem k222_35 {d x : Nat} {l1 : Option PV} {st : List PV} {M : Mem} {Q : Option PV → Mem → Prop} : WP d 222 35 [some (vr x), l1] (st) M Q = WP d 222 36 [some (vr x), l1] (vr x :: st) M Q := w1 mC_222 d222_35 rfl rfl
theorem d222_36 : decode cX12_hour 36 = .ok (.getfield 51, 3) := by decide +kernel
theorem k222_36 {d : Nat} {l0 l1 : Option PV} {st : List PV} {M : Mem} {Q : Option PV → Mem → Prop} {r : Nat} (hk : mK M r = 12) : WP d 222 36 [l0, l1] (vr r :: st) M Q = WP d 222 39 [l0, l1] (vr (mR M r 22) :: st) M Q := w_getr mC_222 d222_36 fE_12_51 rfl (by rw [hk]; rfl)
theorem d222_39 : decode cX12_hour 39 = .ok (.iconst 3, 1) := by decide +kernel
theorem k222_39 {d : Nat} {l0 l1 : Option PV} {st : List PV} {M : Mem} {Q : Option PV → Mem → Prop} : WP d 222 39 [l0, l1] (st) M Q = WP d 222 40 [l0, l1] (vi 3 :: st) M Q := w_iconst mC_222 d222_39 (by decide)
theorem d222_40 : decode cX12_hour 40 = .ok (.dup2, 1) := by decide +kernel
theorem k222_40 {d : Nat} {l0 l1 : Option PV} {st : List PV} {M : Mem} {Q : Option PV → Mem → Prop} {a : Int32} {b : Nat} : WP d 222 40 [l0, l1] (vi a :: vr b :: st) M Q = WP d 222 41 [l0, l1] (vi a :: vr b :: vi a :: vr b :: st) M Q := w1 mC_222 d222_40 rfl rfl
theorem d222_41 : decode cX12_hour 41 = .ok (.iaload, 1) := by decide +kernel
theorem k222_41 {d : Nat} {l0 l1 : Option PV} {st : List PV} {M : Mem} {Q : Option PV → Mem → Prop} {r : Nat} {j : Int32} (hk : mK M r = 13) (hj : inb j (mN M r)) (h1 : r ≠ 1) : WP d 222 41 [l0, l1] (vi j :: vr r :: st) M Q = WP d 222 42 [l0, l1] (vi (mI M r (ix j)) :: st) M Q := w_iald mC_222 d222_41 (by decide) hk hj h1
theorem d222_42 : decode cX12_hour 42 = .ok (.iload_n 1, 1) := by decide +kernel
theorem k222_42 {d : Nat} {x : Int32} {l0 : Option PV} {st : List PV} {M : Mem} {Q : Option PV → Mem → Prop} : WP d 222 42 [l0, some (vi x)] (st) M Q = WP d 222 43 [l0, some (vi x)] (vi x :: st) M Q := w1 mC_222 d222_42 rfl rfl
theorem d222_43 : decode cX12_hour 43 = .ok (.iadd, 1) := by decide +kernel
theorem k222_43 {d : Nat} {l0 l1 : Option PV} {st : List PV} {M : Mem} {Q : Option PV → Mem → Prop} {x y : Int32} : WP d 222 43 [l0, l1] (vi y :: vi x :: st) M Q = WP d 222 44 [l0, l1] (vi (x + y) :: st) M Q := w1 mC_222 d222_43 rfl rfl
theorem d222_44 : decode cX12_hour 44 = .ok (.iastore, 1) := by decide +kernel
theorem k222_44 {d : Nat} {l0 l1 : Option PV} {st : List PV} {M : Mem} {Q : Option PV → Mem → Prop} {r : Nat} {j x : Int32} (hk : mK M r = 13) (hj : inb j (mN M r)) (h1 : r ≠ 1) : WP d 222 44 [l0, l1] (vi x :: vi j :: vr r :: st) M Q = WP d 222 45 [l0, l1] (st) (sI M r (ix j) x) Q := w_iast mC_222 d222_44 hk hj h1
theorem d222_45 : decode cX12_hour 45 = .ok (.iload_n 1, 1) := by decide +kernel
theorem k222_45 {d : Nat} {x : Int32} {l0 : Option PV} {st : List PV} {M : Mem} {Q : Option PV → Mem → Prop} : WP d 222 45 [l0, some (vi x)] (st) M Q = WP d 222 46 [l0, some (vi x)] (vi x :: st) M Q := w1 mC_222 d222_45 rfl rfl
theorem d222_46 : decode cX12_hour 46 = .ok (.ireturn, 1) := by decide +kernel
theorem k222_46 {d : Nat} {l0 l1 : Option PV} {M : Mem} {Q : Option PV → Mem → Prop} {x : Int32} : WP d 222 46 [l0, l1] ([vi x]) M Q = Q (some (vi x)) M := w_iret mC_222 d222_46 rfl
theorem d223_0 : decode cX12_lends 0 = .ok (.aload_n 0, 1) := by decide +kernel
theorem k223_0 {d x : Nat} {l1 l2 : Option PV} {st : List PV} {M : Mem} {Q : Option PV → Mem → Prop} : WP d 223 0 [some (vr x), l1, l2] (st) M Q = WP d 223 1 [some (vr x), l1, l2] (vr x :: st) M Q := w1 mC_223 d223_0 rfl rfl
theorem d223_1 : decode cX12_lends 1 = .ok (.iload_n 1, 1) := by decide +kernel
theorem k223_1 {d : Nat} {x : Int32} {l0 l2 : Option PV} {st : List PV} {M : Mem} {Q : Option PV → Mem → Prop} : WP d 223 1 [l0, some (vi x), l2] (st) M Q = WP d 223 2 [l0, some (vi x), l2] (vi x :: st) M Q := w1 mC_223 d223_1 rfl rfl
theorem d223_2 : decode cX12_lends 2 = .ok (.invokevirtual 290, 3) := by decide +kernel
theorem k223_2 {d : Nat} {l0 l1 l2 : Option PV} {st : List PV} {M : Mem} {Q : Option PV → Mem → Prop} {a0 : Int32} {r : Nat} (hl : szL st ≤ 8) (hk : mK M r = 12) : WP (d + 1) 223 2 [l0, l1, l2] (vi a0 :: vr r :: st) M Q = WP d 200 0 [some (vr r), some (vi a0)] [] M (fun v M' => WP (d + 1) 223 5 [l0, l1, l2] (psh v st) M' Q) := w_callV mC_223 d223_2 (ci := 12) rfl rfl rfl (Nat.le_of_ble_eq_true rfl) (by decide) rfl hl hk
theorem d223_5 : decode cX12_lends 5 = .ok (.ifCond .eq 13, 3) := by decide +kernel
theorem k223_5 {d : Nat} {l0 l1 l2 : Option PV} {st : List PV} {M : Mem} {Q : Option PV → Mem → Prop} {x : Int32} : WP d 223 5 [l0, l1, l2] (vi x :: st) M Q = (if x = 0 then WP d 223 18 [l0, l1, l2] (st) M Q else WP d 223 8 [l0, l1, l2] (st) M Q) := w_if_eq mC_223 d223_5 (by decide)
theorem d223_8 : decode cX12_lends 8 = .ok (.iload_n 2, 1) := by decide +kernel
theorem k223_8 {d : Nat} {x : Int32} {l0 l1 : Option PV} {st : List PV} {M : Mem} {Q : Option PV → Mem → Prop} : WP d 223 8 [l0, l1, some (vi x)] (st) M Q = WP d 223 9 [l0, l1, some (vi x)] (vi x :: st) M Q := w1 mC_223 d223_8 rfl rfl
theorem d223_9 : decode cX12_lends 9 = .ok (.iconst 1, 1) := by decide +kernel
theorem k223_9 {d : Nat} {l0 l1 l2 : Option PV} {st : List PV} {M : Mem} {Q : Option PV → Mem → Prop} : WP d 223 9 [l0, l1, l2] (st) M Q = WP d 223 10 [l0, l1, l2] (vi 1 :: st) M Q := w_iconst mC_223 d223_9 (by decide)
theorem d223_10 : decode cX12_lends 10 = .ok (.bipush 99, 2) := by decide +kernel
theorem k223_10 {d : Nat} {l0 l1 l2 : Option PV} {st : List PV} {M : Mem} {Q : Option PV → Mem → Prop} : WP d 223 10 [l0, l1, l2] (st) M Q = WP d 223 12 [l0, l1, l2] (vi 99 :: st) M Q := w_bipush mC_223 d223_10 (by decide)
theorem d223_12 : decode cX12_lends 12 = .ok (.invokestatic 104, 3) := by decide +kernel
theorem k223_12 {d : Nat} {l0 l1 l2 : Option PV} {st : List PV} {M : Mem} {Q : Option PV → Mem → Prop} {a0 a1 a2 : Int32} (hl : szL st ≤ 8) : WP (d + 1) 223 12 [l0, l1, l2] (vi a2 :: vi a1 :: vi a0 :: st) M Q = WP d 145 0 [some (vi a0), some (vi a1), some (vi a2)] [] M (fun v M' => WP (d + 1) 223 15 [l0, l1, l2] (psh v st) M' Q) := w_callS mC_223 d223_12 rfl rfl (Nat.le_of_ble_eq_true rfl) (by decide) rfl hl
theorem d223_15 : decode cX12_lends 15 = .ok (.ifCond .ne 5, 3) := by decide +kernel
theorem k223_15 {d : Nat} {l0 l1 l2 : Option PV} {st : List PV} {M : Mem} {Q : Option PV → Mem → Prop} {x : Int32} : WP d 223 15 [l0, l1, l2] (vi x :: st) M Q = (if x = 0 then WP d 223 18 [l0, l1, l2] (st) M Q else WP d 223 20 [l0, l1, l2] (st) M Q) := w_if_ne mC_223 d223_15 (by decide)
theorem d223_18 : decode cX12_lends 18 = .ok (.iconst (-1), 1) := by decide +kernel
theorem k223_18 {d : Nat} {l0 l1 l2 : Option PV} {st : List PV} {M : Mem} {Q : Option PV → Mem → Prop} : WP d 223 18 [l0, l1, l2] (st) M Q = WP d 223 19 [l0, l1, l2] (vi (-1) :: st) M Q := w_iconst mC_223 d223_18 (by decide)
theorem d223_19 : decode cX12_lends 19 = .ok (.ireturn, 1) := by decide +kernel
theorem k223_19 {d : Nat} {l0 l1 l2 : Option PV} {M : Mem} {Q : Option PV → Mem → Prop} {x : Int32} : WP d 223 19 [l0, l1, l2] ([vi x]) M Q = Q (some (vi x)) M := w_iret mC_223 d223_19 rfl
theorem d223_20 : decode cX12_lends 20 = .ok (.aload_n 0, 1) := by decide +kernel
theorem k223_20 {d x : Nat} {l1 l2 : Option PV} {st : List PV} {M : Mem} {Q : Option PV → Mem → Prop} : WP d 223 20 [some (vr x), l1, l2] (st) M Q = WP d 223 21 [some (vr x), l1, l2] (vr x :: st) M Q := w1 mC_223 d223_20 rfl rfl
theorem d223_21 : decode cX12_lends 21 = .ok (.iload_n 1, 1) := by decide +kernel
theorem k223_21 {d : Nat} {x : Int32} {l0 l2 : Option PV} {st : List PV} {M : Mem} {Q : Option PV → Mem → Prop} : WP d 223 21 [l0, some (vi x), l2] (st) M Q = WP d 223 22 [l0, some (vi x), l2] (vi x :: st) M Q := w1 mC_223 d223_21 rfl rfl
theorem d223_22 : decode cX12_lends 22 = .ok (.bipush 10, 2) := by decide +kernel
theorem k223_22 {d : Nat} {l0 l1 l2 : Option PV} {st : List PV} {M : Mem} {Q : Option PV → Mem → Prop} : WP d 223 22 [l0, l1, l2] (st) M Q = WP d 223 24 [l0, l1, l2] (vi 10 :: st) M Q := w_bipush mC_223 d223_22 (by decide)
theorem d223_24 : decode cX12_lends 24 = .ok (.irem, 1) := by decide +kernel
theorem k223_24 {d : Nat} {l0 l1 l2 : Option PV} {st : List PV} {M : Mem} {Q : Option PV → Mem → Prop} {x y : Int32} (h : y ≠ 0) : WP d 223 24 [l0, l1, l2] (vi y :: vi x :: st) M Q = WP d 223 25 [l0, l1, l2] (vi (x % y) :: st) M Q := w_rem mC_223 d223_24 h
theorem d223_25 : decode cX12_lends 25 = .ok (.invokevirtual 231, 3) := by decide +kernel
theorem k223_25 {d : Nat} {l0 l1 l2 : Option PV} {st : List PV} {M : Mem} {Q : Option PV → Mem → Prop} {a0 : Int32} {r : Nat} (hl : szL st ≤ 8) (hk : mK M r = 12) : WP (d + 1) 223 25 [l0, l1, l2] (vi a0 :: vr r :: st) M Q = WP d 181 0 [some (vr r), some (vi a0)] [] M (fun v M' => WP (d + 1) 223 28 [l0, l1, l2] (psh v st) M' Q) := w_callV mC_223 d223_25 (ci := 12) rfl rfl rfl (Nat.le_of_ble_eq_true rfl) (by decide) rfl hl hk
theorem d223_28 : decode cX12_lends 28 = .ok (.iconst (-1), 1) := by decide +kernel
theorem k223_28 {d : Nat} {l0 l1 l2 : Option PV} {st : List PV} {M : Mem} {Q : Option PV → Mem → Prop} : WP d 223 28 [l0, l1, l2] (st) M Q = WP d 223 29 [l0, l1, l2] (vi (-1) :: st) M Q := w_iconst mC_223 d223_28 (by decide)
theorem d223_29 : decode cX12_lends 29 = .ok (.if_icmp .ne 19, 3) := by decide +kernel
theorem k223_29 {d : Nat} {l0 l1 l2 : Option PV} {st : List PV} {M : Mem} {Q : Option PV → Mem → Prop} {x y : Int32} : WP d 223 29 [l0, l1, l2] (vi y :: vi x :: st) M Q = (if x = y then WP d 223 32 [l0, l1, l2] (st) M Q else WP d 223 48 [l0, l1, l2] (st) M Q) := w_ic_ne mC_223 d223_29 (by decide)
theorem d223_32 : decode cX12_lends 32 = .ok (.aload_n 0, 1) := by decide +kernel
theorem k223_32 {d x : Nat} {l1 l2 : Option PV} {st : List PV} {M : Mem} {Q : Option PV → Mem → Prop} : WP d 223 32 [some (vr x), l1, l2] (st) M Q = WP d 223 33 [some (vr x), l1, l2] (vr x :: st) M Q := w1 mC_223 d223_32 rfl rfl
theorem d223_33 : decode cX12_lends 33 = .ok (.getfield 9, 3) := by decide +kernel
theorem k223_33 {d : Nat} {l0 l1 l2 : Option PV} {st : List PV} {M : Mem} {Q : Option PV → Mem → Prop} {r : Nat} (hk : mK M r = 12) : WP d 223 33 [l0, l1, l2] (vr r :: st) M Q = WP d 223 36 [l0, l1, l2] (vr (mR M r 2) :: st) M Q := w_getr mC_223 d223_33 fE_12_9 rfl (by rw [hk]; rfl)
theorem d223_36 : decode cX12_lends 36 = .ok (.bipush 8, 2) := by decide +kernel
theorem k223_36 {d : Nat} {l0 l1 l2 : Option PV} {st : List PV} {M : Mem} {Q : Option PV → Mem → Prop} : WP d 223 36 [l0, l1, l2] (st) M Q = WP d 223 38 [l0, l1, l2] (vi 8 :: st) M Q := w_bipush mC_223 d223_36 (by decide)
theorem d223_38 : decode cX12_lends 38 = .ok (.iload_n 1, 1) := by decide +kernel
theorem k223_38 {d : Nat} {x : Int32} {l0 l2 : Option PV} {st : List PV} {M : Mem} {Q : Option PV → Mem → Prop} : WP d 223 38 [l0, some (vi x), l2] (st) M Q = WP d 223 39 [l0, some (vi x), l2] (vi x :: st) M Q := w1 mC_223 d223_38 rfl rfl
theorem d223_39 : decode cX12_lends 39 = .ok (.bipush 10, 2) := by decide +kernel
theorem k223_39 {d : Nat} {l0 l1 l2 : Option PV} {st : List PV} {M : Mem} {Q : Option PV → Mem → Prop} : WP d 223 39 [l0, l1, l2] (st) M Q = WP d 223 41 [l0, l1, l2] (vi 10 :: st) M Q := w_bipush mC_223 d223_39 (by decide)
theorem d223_41 : decode cX12_lends 41 = .ok (.idiv, 1) := by decide +kernel
theorem k223_41 {d : Nat} {l0 l1 l2 : Option PV} {st : List PV} {M : Mem} {Q : Option PV → Mem → Prop} {x y : Int32} (h : y ≠ 0) : WP d 223 41 [l0, l1, l2] (vi y :: vi x :: st) M Q = WP d 223 42 [l0, l1, l2] (vi (x / y) :: st) M Q := w_div mC_223 d223_41 h
theorem d223_42 : decode cX12_lends 42 = .ok (.iadd, 1) := by decide +kernel
theorem k223_42 {d : Nat} {l0 l1 l2 : Option PV} {st : List PV} {M : Mem} {Q : Option PV → Mem → Prop} {x y : Int32} : WP d 223 42 [l0, l1, l2] (vi y :: vi x :: st) M Q = WP d 223 43 [l0, l1, l2] (vi (x + y) :: st) M Q := w1 mC_223 d223_42 rfl rfl
theorem d223_43 : decode cX12_lends 43 = .ok (.iaload, 1) := by decide +kernel
theorem k223_43 {d : Nat} {l0 l1 l2 : Option PV} {st : List PV} {M : Mem} {Q : Option PV → Mem → Prop} {r : Nat} {j : Int32} (hk : mK M r = 13) (hj : inb j (mN M r)) (h1 : r ≠ 1) : WP d 223 43 [l0, l1, l2] (vi j :: vr r :: st) M Q = WP d 223 44 [l0, l1, l2] (vi (mI M r (ix j)) :: st) M Q := w_iald mC_223 d223_43 (by decide) hk hj h1
theorem d223_44 : decode cX12_lends 44 = .ok (.iload_n 2, 1) := by decide +kernel
theorem k223_44 {d : Nat} {x : Int32} {l0 l1 : Option PV} {st : List PV} {M : Mem} {Q : Option PV → Mem → Prop} : WP d 223 44 [l0, l1, some (vi x)] (st) M Q = WP d 223 45 [l0, l1, some (vi x)] (vi x :: st) M Q := w1 mC_223 d223_44 rfl rfl
theorem d223_45 : decode cX12_lends 45 = .ok (.if_icmp .ge 6, 3) := by decide +kernel
theorem k223_45 {d : Nat} {l0 l1 l2 : Option PV} {st : List PV} {M : Mem} {Q : Option PV → Mem → Prop} {x y : Int32} : WP d 223 45 [l0, l1, l2] (vi y :: vi x :: st) M Q = (if y ≤ x then WP d 223 51 [l0, l1, l2] (st) M Q else WP d 223 48 [l0, l1, l2] (st) M Q) := w_ic_ge mC_223 d223_45 (by decide)
theorem d223_48 : decode cX12_lends 48 = .ok (.bipush (-5), 2) := by decide +kernel
theorem k223_48 {d : Nat} {l0 l1 l2 : Option PV} {st : List PV} {M : Mem} {Q : Option PV → Mem → Prop} : WP d 223 48 [l0, l1, l2] (st) M Q = WP d 223 50 [l0, l1, l2] (vi (-5) :: st) M Q := w_bipush mC_223 d223_48 (by decide)
theorem d223_50 : decode cX12_lends 50 = .ok (.ireturn, 1) := by decide +kernel
theorem k223_50 {d : Nat} {l0 l1 l2 : Option PV} {M : Mem} {Q : Option PV → Mem → Prop} {x : Int32} : WP d 223 50 [l0, l1, l2] ([vi x]) M Q = Q (some (vi x)) M := w_iret mC_223 d223_50 rfl
theorem d223_51 : decode cX12_lends 51 = .ok (.aload_n 0, 1) := by decide +kernel
theorem k223_51 {d x : Nat} {l1 l2 : Option PV} {st : List PV} {M : Mem} {Q : Option PV → Mem → Prop} : WP d 223 51 [some (vr x), l1, l2] (st) M Q = WP d 223 52 [some (vr x), l1, l2] (vr x :: st) M Q := w1 mC_223 d223_51 rfl rfl
theorem d223_52 : decode cX12_lends 52 = .ok (.getfield 9, 3) := by decide +kernel
theorem k223_52 {d : Nat} {l0 l1 l2 : Option PV} {st : List PV} {M : Mem} {Q : Option PV → Mem → Prop} {r : Nat} (hk : mK M r = 12) : WP d 223 52 [l0, l1, l2] (vr r :: st) M Q = WP d 223 55 [l0, l1, l2] (vr (mR M r 2) :: st) M Q := w_getr mC_223 d223_52 fE_12_9 rfl (by rw [hk]; rfl)
theorem d223_55 : decode cX12_lends 55 = .ok (.bipush 8, 2) := by decide +kernel
theorem k223_55 {d : Nat} {l0 l1 l2 : Option PV} {st : List PV} {M : Mem} {Q : Option PV → Mem → Prop} : WP d 223 55 [l0, l1, l2] (st) M Q = WP d 223 57 [l0, l1, l2] (vi 8 :: st) M Q := w_bipush mC_223 d223_55 (by decide)
theorem d223_57 : decode cX12_lends 57 = .ok (.iload_n 1, 1) := by decide +kernel
theorem k223_57 {d : Nat} {x : Int32} {l0 l2 : Option PV} {st : List PV} {M : Mem} {Q : Option PV → Mem → Prop} : WP d 223 57 [l0, some (vi x), l2] (st) M Q = WP d 223 58 [l0, some (vi x), l2] (vi x :: st) M Q := w1 mC_223 d223_57 rfl rfl
theorem d223_58 : decode cX12_lends 58 = .ok (.bipush 10, 2) := by decide +kernel
theorem k223_58 {d : Nat} {l0 l1 l2 : Option PV} {st : List PV} {M : Mem} {Q : Option PV → Mem → Prop} : WP d 223 58 [l0, l1, l2] (st) M Q = WP d 223 60 [l0, l1, l2] (vi 10 :: st) M Q := w_bipush mC_223 d223_58 (by decide)
theorem d223_60 : decode cX12_lends 60 = .ok (.idiv, 1) := by decide +kernel
theorem k223_60 {d : Nat} {l0 l1 l2 : Option PV} {st : List PV} {M : Mem} {Q : Option PV → Mem → Prop} {x y : Int32} (h : y ≠ 0) : WP d 223 60 [l0, l1, l2] (vi y :: vi x :: st) M Q = WP d 223 61 [l0, l1, l2] (vi (x / y) :: st) M Q := w_div mC_223 d223_60 h
theorem d223_61 : decode cX12_lends 61 = .ok (.iadd, 1) := by decide +kernel
theorem k223_61 {d : Nat} {l0 l1 l2 : Option PV} {st : List PV} {M : Mem} {Q : Option PV → Mem → Prop} {x y : Int32} : WP d 223 61 [l0, l1, l2] (vi y :: vi x :: st) M Q = WP d 223 62 [l0, l1, l2] (vi (x + y) :: st) M Q := w1 mC_223 d223_61 rfl rfl
theorem d223_62 : decode cX12_lends 62 = .ok (.dup2, 1) := by decide +kernel
theorem k223_62 {d : Nat} {l0 l1 l2 : Option PV} {st : List PV} {M : Mem} {Q : Option PV → Mem → Prop} {a : Int32} {b : Nat} : WP d 223 62 [l0, l1, l2] (vi a :: vr b :: st) M Q = WP d 223 63 [l0, l1, l2] (vi a :: vr b :: vi a :: vr b :: st) M Q := w1 mC_223 d223_62 rfl rfl
theorem d223_63 : decode cX12_lends 63 = .ok (.iaload, 1) := by decide +kernel
theorem k223_63 {d : Nat} {l0 l1 l2 : Option PV} {st : List PV} {M : Mem} {Q : Option PV → Mem → Prop} {r : Nat} {j : Int32} (hk : mK M r = 13) (hj : inb j (mN M r)) (h1 : r ≠ 1) : WP d 223 63 [l0, l1, l2] (vi j :: vr r :: st) M Q = WP d 223 64 [l0, l1, l2] (vi (mI M r (ix j)) :: st) M Q := w_iald mC_223 d223_63 (by decide) hk hj h1
theorem d223_64 : decode cX12_lends 64 = .ok (.iload_n 2, 1) := by decide +kernel
theorem k223_64 {d : Nat} {x : Int32} {l0 l1 : Option PV} {st : List PV} {M : Mem} {Q : Option PV → Mem → Prop} : WP d 223 64 [l0, l1, some (vi x)] (st) M Q = WP d 223 65 [l0, l1, some (vi x)] (vi x :: st) M Q := w1 mC_223 d223_64 rfl rfl
theorem d223_65 : decode cX12_lends 65 = .ok (.isub, 1) := by decide +kernel
theorem k223_65 {d : Nat} {l0 l1 l2 : Option PV} {st : List PV} {M : Mem} {Q : Option PV → Mem → Prop} {x y : Int32} : WP d 223 65 [l0, l1, l2] (vi y :: vi x :: st) M Q = WP d 223 66 [l0, l1, l2] (vi (x - y) :: st) M Q := w1 mC_223 d223_65 rfl rfl
theorem d223_66 : decode cX12_lends 66 = .ok (.iastore, 1) := by decide +kernel
theorem k223_66 {d : Nat} {l0 l1 l2 : Option PV} {st : List PV} {M : Mem} {Q : Option PV → Mem → Prop} {r : Nat} {j x : Int32} (hk : mK M r = 13) (hj : inb j (mN M r)) (h1 : r ≠ 1) : WP d 223 66 [l0, l1, l2] (vi x :: vi j :: vr r :: st) M Q = WP d 223 67 [l0, l1, l2] (st) (sI M r (ix j) x) Q := w_iast mC_223 d223_66 hk hj h1
theorem d223_67 : decode cX12_lends 67 = .ok (.aload_n 0, 1) := by decide +kernel
theorem k223_67 {d x : Nat} {l1 l2 : Option PV} {st : List PV} {M : Mem} {Q : Option PV → Mem → Prop} : WP d 223 67 [some (vr x), l1, l2] (st) M Q = WP d 223 68 [some (vr x), l1, l2] (vr x :: st) M Q := w1 mC_223 d223_67 rfl rfl
theorem d223_68 : decode cX12_lends 68 = .ok (.getfield 9, 3) := by decide +kernel
theorem k223_68 {d : Nat} {l0 l1 l2 : Option PV} {st : List PV} {M : Mem} {Q : Option PV → Mem → Prop} {r : Nat} (hk : mK M r = 12) : WP d 223 68 [l0, l1, l2] (vr r :: st) M Q = WP d 223 71 [l0, l1, l2] (vr (mR M r 2) :: st) M Q := w_getr mC_223 d223_68 fE_12_9 rfl (by rw [hk]; rfl)
theorem d223_71 : decode cX12_lends 71 = .ok (.bipush 32, 2) := by decide +kernel
theorem k223_71 {d : Nat} {l0 l1 l2 : Option PV} {st : List PV} {M : Mem} {Q : Option PV → Mem → Prop} : WP d 223 71 [l0, l1, l2] (st) M Q = WP d 223 73 [l0, l1, l2] (vi 32 :: st) M Q := w_bipush mC_223 d223_71 (by decide)
theorem d223_73 : decode cX12_lends 73 = .ok (.iload_n 1, 1) := by decide +kernel
theorem k223_73 {d : Nat} {x : Int32} {l0 l2 : Option PV} {st : List PV} {M : Mem} {Q : Option PV → Mem → Prop} : WP d 223 73 [l0, some (vi x), l2] (st) M Q = WP d 223 74 [l0, some (vi x), l2] (vi x :: st) M Q := w1 mC_223 d223_73 rfl rfl
theorem d223_74 : decode cX12_lends 74 = .ok (.bipush 10, 2) := by decide +kernel
theorem k223_74 {d : Nat} {l0 l1 l2 : Option PV} {st : List PV} {M : Mem} {Q : Option PV → Mem → Prop} : WP d 223 74 [l0, l1, l2] (st) M Q = WP d 223 76 [l0, l1, l2] (vi 10 :: st) M Q := w_bipush mC_223 d223_74 (by decide)
theorem d223_76 : decode cX12_lends 76 = .ok (.irem, 1) := by decide +kernel
theorem k223_76 {d : Nat} {l0 l1 l2 : Option PV} {st : List PV} {M : Mem} {Q : Option PV → Mem → Prop} {x y : Int32} (h : y ≠ 0) : WP d 223 76 [l0, l1, l2] (vi y :: vi x :: st) M Q = WP d 223 77 [l0, l1, l2] (vi (x % y) :: st) M Q := w_rem mC_223 d223_76 h
theorem d223_77 : decode cX12_lends 77 = .ok (.iadd, 1) := by decide +kernel
theorem k223_77 {d : Nat} {l0 l1 l2 : Option PV} {st : List PV} {M : Mem} {Q : Option PV → Mem → Prop} {x y : Int32} : WP d 223 77 [l0, l1, l2] (vi y :: vi x :: st) M Q = WP d 223 78 [l0, l1, l2] (vi (x + y) :: st) M Q := w1 mC_223 d223_77 rfl rfl
theorem d223_78 : decode cX12_lends 78 = .ok (.iload_n 1, 1) := by decide +kernel
theorem k223_78 {d : Nat} {x : Int32} {l0 l2 : Option PV} {st : List PV} {M : Mem} {Q : Option PV → Mem → Prop} : WP d 223 78 [l0, some (vi x), l2] (st) M Q = WP d 223 79 [l0, some (vi x), l2] (vi x :: st) M Q := w1 mC_223 d223_78 rfl rfl
theorem d223_79 : decode cX12_lends 79 = .ok (.bipush 10, 2) := by decide +kernel
theorem k223_79 {d : Nat} {l0 l1 l2 : Option PV} {st : List PV} {M : Mem} {Q : Option PV → Mem → Prop} : WP d 223 79 [l0, l1, l2] (st) M Q = WP d 223 81 [l0, l1, l2] (vi 10 :: st) M Q := w_bipush mC_223 d223_79 (by decide)
theorem d223_81 : decode cX12_lends 81 = .ok (.idiv, 1) := by decide +kernel
theorem k223_81 {d : Nat} {l0 l1 l2 : Option PV} {st : List PV} {M : Mem} {Q : Option PV → Mem → Prop} {x y : Int32} (h : y ≠ 0) : WP d 223 81 [l0, l1, l2] (vi y :: vi x :: st) M Q = WP d 223 82 [l0, l1, l2] (vi (x / y) :: st) M Q := w_div mC_223 d223_81 h
theorem d223_82 : decode cX12_lends 82 = .ok (.iastore, 1) := by decide +kernel
theorem k223_82 {d : Nat} {l0 l1 l2 : Option PV} {st : List PV} {M : Mem} {Q : Option PV → Mem → Prop} {r : Nat} {j x : Int32} (hk : mK M r = 13) (hj : inb j (mN M r)) (h1 : r ≠ 1) : WP d 223 82 [l0, l1, l2] (vi x :: vi j :: vr r :: st) M Q = WP d 223 83 [l0, l1, l2] (st) (sI M r (ix j) x) Q := w_iast mC_223 d223_82 hk hj h1
theorem d223_83 : decode cX12_lends 83 = .ok (.aload_n 0, 1) := by decide +kernel
theorem k223_83 {d x : Nat} {l1 l2 : Option PV} {st : List PV} {M : Mem} {Q : Option PV → Mem → Prop} : WP d 223 83 [some (vr x), l1, l2] (st) M Q = WP d 223 84 [some (vr x), l1, l2] (vr x :: st) M Q := w1 mC_223 d223_83 rfl rfl
theorem d223_84 : decode cX12_lends 84 = .ok (.getfield 9, 3) := by decide +kernel
theorem k223_84 {d : Nat} {l0 l1 l2 : Option PV} {st : List PV} {M : Mem} {Q : Option PV → Mem → Prop} {r : Nat} (hk : mK M r = 12) : WP d 223 84 [l0, l1, l2] (vr r :: st) M Q = WP d 223 87 [l0, l1, l2] (vr (mR M r 2) :: st) M Q := w_getr mC_223 d223_84 fE_12_9 rfl (by rw [hk]; rfl)
theorem d223_87 : decode cX12_lends 87 = .ok (.bipush 40, 2) := by decide +kernel
theorem k223_87 {d : Nat} {l0 l1 l2 : Option PV} {st : List PV} {M : Mem} {Q : Option PV → Mem → Prop} : WP d 223 87 [l0, l1, l2] (st) M Q = WP d 223 89 [l0, l1, l2] (vi 40 :: st) M Q := w_bipush mC_223 d223_87 (by decide)
theorem d223_89 : decode cX12_lends 89 = .ok (.iload_n 1, 1) := by decide +kernel
theorem k223_89 {d : Nat} {x : Int32} {l0 l2 : Option PV} {st : List PV} {M : Mem} {Q : Option PV → Mem → Prop} : WP d 223 89 [l0, some (vi x), l2] (st) M Q = WP d 223 90 [l0, some (vi x), l2] (vi x :: st) M Q := w1 mC_223 d223_89 rfl rfl
theorem d223_90 : decode cX12_lends 90 = .ok (.bipush 10, 2) := by decide +kernel
theorem k223_90 {d : Nat} {l0 l1 l2 : Option PV} {st : List PV} {M : Mem} {Q : Option PV → Mem → Prop} : WP d 223 90 [l0, l1, l2] (st) M Q = WP d 223 92 [l0, l1, l2] (vi 10 :: st) M Q := w_bipush mC_223 d223_90 (by decide)
theorem d223_92 : decode cX12_lends 92 = .ok (.irem, 1) := by decide +kernel
theorem k223_92 {d : Nat} {l0 l1 l2 : Option PV} {st : List PV} {M : Mem} {Q : Option PV → Mem → Prop} {x y : Int32} (h : y ≠ 0) : WP d 223 92 [l0, l1, l2] (vi y :: vi x :: st) M Q = WP d 223 93 [l0, l1, l2] (vi (x % y) :: st) M Q := w_rem mC_223 d223_92 h
theorem d223_93 : decode cX12_lends 93 = .ok (.iadd, 1) := by decide +kernel
theorem k223_93 {d : Nat} {l0 l1 l2 : Option PV} {st : List PV} {M : Mem} {Q : Option PV → Mem → Prop} {x y : Int32} : WP d 223 93 [l0, l1, l2] (vi y :: vi x :: st) M Q = WP d 223 94 [l0, l1, l2] (vi (x + y) :: st) M Q := w1 mC_223 d223_93 rfl rfl
theorem d223_94 : decode cX12_lends 94 = .ok (.iload_n 2, 1) := by decide +kernel
theorem k223_94 {d : Nat} {x : Int32} {l0 l1 : Option PV} {st : List PV} {M : Mem} {Q : Option PV → Mem → Prop} : WP d 223 94 [l0, l1, some (vi x)] (st) M Q = WP d 223 95 [l0, l1, some (vi x)] (vi x :: st) M Q := w1 mC_223 d223_94 rfl rfl
theorem d223_95 : decode cX12_lends 95 = .ok (.iastore, 1) := by decide +kernel
theorem k223_95 {d : Nat} {l0 l1 l2 : Option PV} {st : List PV} {M : Mem} {Q : Option PV → Mem → Prop} {r : Nat} {j x : Int32} (hk : mK M r = 13) (hj : inb j (mN M r)) (h1 : r ≠ 1) : WP d 223 95 [l0, l1, l2] (vi x :: vi j :: vr r :: st) M Q = WP d 223 96 [l0, l1, l2] (st) (sI M r (ix j) x) Q := w_iast mC_223 d223_95 hk hj h1
theorem d223_96 : decode cX12_lends 96 = .ok (.aload_n 0, 1) := by decide +kernel
theorem k223_96 {d x : Nat} {l1 l2 : Option PV} {st : List PV} {M : Mem} {Q : Option PV → Mem → Prop} : WP d 223 96 [some (vr x), l1, l2] (st) M Q = WP d 223 97 [some (vr x), l1, l2] (vr x :: st) M Q := w1 mC_223 d223_96 rfl rfl
theorem d223_97 : decode cX12_lends 97 = .ok (.getfield 51, 3) := by decide +kernel
theorem k223_97 {d : Nat} {l0 l1 l2 : Option PV} {st : List PV} {M : Mem} {Q : Option PV → Mem → Prop} {r : Nat} (hk : mK M r = 12) : WP d 223 97 [l0, l1, l2] (vr r :: st) M Q = WP d 223 100 [l0, l1, l2] (vr (mR M r 22) :: st) M Q := w_getr mC_223 d223_97 fE_12_51 rfl (by rw [hk]; rfl)
theorem d223_100 : decode cX12_lends 100 = .ok (.iconst 1, 1) := by decide +kernel
theorem k223_100 {d : Nat} {l0 l1 l2 : Option PV} {st : List PV} {M : Mem} {Q : Option PV → Mem → Prop} : WP d 223 100 [l0, l1, l2] (st) M Q = WP d 223 101 [l0, l1, l2] (vi 1 :: st) M Q := w_iconst mC_223 d223_100 (by decide)
theorem d223_101 : decode cX12_lends 101 = .ok (.dup2, 1) := by decide +kernel
theorem k223_101 {d : Nat} {l0 l1 l2 : Option PV} {st : List PV} {M : Mem} {Q : Option PV → Mem → Prop} {a : Int32} {b : Nat} : WP d 223 101 [l0, l1, l2] (vi a :: vr b :: st) M Q = WP d 223 102 [l0, l1, l2] (vi a :: vr b :: vi a :: vr b :: st) M Q := w1 mC_223 d223_101 rfl rfl
theorem d223_102 : decode cX12_lends 102 = .ok (.iaload, 1) := by decide +kernel
theorem k223_102 {d : Nat} {l0 l1 l2 : Option PV} {st : List PV} {M : Mem} {Q : Option PV → Mem → Prop} {r : Nat} {j : Int32} (hk : mK M r = 13) (hj : inb j (mN M r)) (h1 : r ≠ 1) : WP d 223 102 [l0, l1, l2] (vi j :: vr r :: st) M Q = WP d 223 103 [l0, l1, l2] (vi (mI M r (ix j)) :: st) M Q := w_iald mC_223 d223_102 (by decide) hk hj h1
theorem d223_103 : decode cX12_lends 103 = .ok (.iconst 1, 1) := by decide +kernel
theorem k223_103 {d : Nat} {l0 l1 l2 : Option PV} {st : List PV} {M : Mem} {Q : Option PV → Mem → Prop} : WP d 223 103 [l0, l1, l2] (st) M Q = WP d 223 104 [l0, l1, l2] (vi 1 :: st) M Q := w_iconst mC_223 d223_103 (by decide)
theorem d223_104 : decode cX12_lends 104 = .ok (.iadd, 1) := by decide +kernel
theorem k223_104 {d : Nat} {l0 l1 l2 : Option PV} {st : List PV} {M : Mem} {Q : Option PV → Mem → Prop} {x y : Int32} : WP d 223 104 [l0, l1, l2] (vi y :: vi x :: st) M Q = WP d 223 105 [l0, l1, l2] (vi (x + y) :: st) M Q := w1 mC_223 d223_104 rfl rfl
theorem d223_105 : decode cX12_lends 105 = .ok (.iastore, 1) := by decide +kernel
theorem k223_105 {d : Nat} {l0 l1 l2 : Option PV} {st : List PV} {M : Mem} {Q : Option PV → Mem → Prop} {r : Nat} {j x : Int32} (hk : mK M r = 13) (hj : inb j (mN M r)) (h1 : r ≠ 1) : WP d 223 105 [l0, l1, l2] (vi x :: vi j :: vr r :: st) M Q = WP d 223 106 [l0, l1, l2] (st) (sI M r (ix j) x) Q := w_iast mC_223 d223_105 hk hj h1
theorem d223_106 : decode cX12_lends 106 = .ok (.aload_n 0, 1) := by decide +kernel
theorem k223_106 {d x : Nat} {l1 l2 : Option PV} {st : List PV} {M : Mem} {Q : Option PV → Mem → Prop} : WP d 223 106 [some (vr x), l1, l2] (st) M Q = WP d 223 107 [some (vr x), l1, l2] (vr x :: st) M Q := w1 mC_223 d223_106 rfl rfl
theorem d223_107 : decode cX12_lends 107 = .ok (.getfield 9, 3) := by decide +kernel
theorem k223_107 {d : Nat} {l0 l1 l2 : Option PV} {st : List PV} {M : Mem} {Q : Option PV → Mem → Prop} {r : Nat} (hk : mK M r = 12) : WP d 223 107 [l0, l1, l2] (vr r :: st) M Q = WP d 223 110 [l0, l1, l2] (vr (mR M r 2) :: st) M Q := w_getr mC_223 d223_107 fE_12_9 rfl (by rw [hk]; rfl)
theorem d223_110 : decode cX12_lends 110 = .ok (.bipush 8, 2) := by decide +kernel
theorem k223_110 {d : Nat} {l0 l1 l2 : Option PV} {st : List PV} {M : Mem} {Q : Option PV → Mem → Prop} : WP d 223 110 [l0, l1, l2] (st) M Q = WP d 223 112 [l0, l1, l2] (vi 8 :: st) M Q := w_bipush mC_223 d223_110 (by decide)
theorem d223_112 : decode cX12_lends 112 = .ok (.iload_n 1, 1) := by decide +kernel
theorem k223_112 {d : Nat} {x : Int32} {l0 l2 : Option PV} {st : List PV} {M : Mem} {Q : Option PV → Mem → Prop} : WP d 223 112 [l0, some (vi x), l2] (st) M Q = WP d 223 113 [l0, some (vi x), l2] (vi x :: st) M Q := w1 mC_223 d223_112 rfl rfl
theorem d223_113 : decode cX12_lends 113 = .ok (.bipush 10, 2) := by decide +kernel
theorem k223_113 {d : Nat} {l0 l1 l2 : Option PV} {st : List PV} {M : Mem} {Q : Option PV → Mem → Prop} : WP d 223 113 [l0, l1, l2] (st) M Q = WP d 223 115 [l0, l1, l2] (vi 10 :: st) M Q := w_bipush mC_223 d223_113 (by decide)
theorem d223_115 : decode cX12_lends 115 = .ok (.idiv, 1) := by decide +kernel
theorem k223_115 {d : Nat} {l0 l1 l2 : Option PV} {st : List PV} {M : Mem} {Q : Option PV → Mem → Prop} {x y : Int32} (h : y ≠ 0) : WP d 223 115 [l0, l1, l2] (vi y :: vi x :: st) M Q = WP d 223 116 [l0, l1, l2] (vi (x / y) :: st) M Q := w_div mC_223 d223_115 h
theorem d223_116 : decode cX12_lends 116 = .ok (.iadd, 1) := by decide +kernel
theorem k223_116 {d : Nat} {l0 l1 l2 : Option PV} {st : List PV} {M : Mem} {Q : Option PV → Mem → Prop} {x y : Int32} : WP d 223 116 [l0, l1, l2] (vi y :: vi x :: st) M Q = WP d 223 117 [l0, l1, l2] (vi (x + y) :: st) M Q := w1 mC_223 d223_116 rfl rfl
theorem d223_117 : decode cX12_lends 117 = .ok (.iaload, 1) := by decide +kernel
theorem k223_117 {d : Nat} {l0 l1 l2 : Option PV} {st : List PV} {M : Mem} {Q : Option PV → Mem → Prop} {r : Nat} {j : Int32} (hk : mK M r = 13) (hj : inb j (mN M r)) (h1 : r ≠ 1) : WP d 223 117 [l0, l1, l2] (vi j :: vr r :: st) M Q = WP d 223 118 [l0, l1, l2] (vi (mI M r (ix j)) :: st) M Q := w_iald mC_223 d223_117 (by decide) hk hj h1
theorem d223_118 : decode cX12_lends 118 = .ok (.ireturn, 1) := by decide +kernel
theorem k223_118 {d : Nat} {l0 l1 l2 : Option PV} {M : Mem} {Q : Option PV → Mem → Prop} {x : Int32} : WP d 223 118 [l0, l1, l2] ([vi x]) M Q = Q (some (vi x)) M := w_iret mC_223 d223_118 rfl
theorem d224_0 : decode cX12_over 0 = .ok (.aload_n 0, 1) := by decide +kernel
theorem k224_0 {d x : Nat} {l1 l2 : Option PV} {st : List PV} {M : Mem} {Q : Option PV → Mem → Prop} : WP d 224 0 [some (vr x), l1, l2] (st) M Q = WP d 224 1 [some (vr x), l1, l2] (vr x :: st) M Q := w1 mC_224 d224_0 rfl rfl
theorem d224_1 : decode cX12_over 1 = .ok (.iload_n 1, 1) := by decide +kernel
theorem k224_1 {d : Nat} {x : Int32} {l0 l2 : Option PV} {st : List PV} {M : Mem} {Q : Option PV → Mem → Prop} : WP d 224 1 [l0, some (vi x), l2] (st) M Q = WP d 224 2 [l0, some (vi x), l2] (vi x :: st) M Q := w1 mC_224 d224_1 rfl rfl
theorem d224_2 : decode cX12_over 2 = .ok (.invokevirtual 134, 3) := by decide +kernel
theorem k224_2 {d : Nat} {l0 l1 l2 : Option PV} {st : List PV} {M : Mem} {Q : Option PV → Mem → Prop} {a0 : Int32} {r : Nat} (hl : szL st ≤ 8) (hk : mK M r = 12) : WP (d + 1) 224 2 [l0, l1, l2] (vi a0 :: vr r :: st) M Q = WP d 147 0 [some (vr r), some (vi a0)] [] M (fun v M' => WP (d + 1) 224 5 [l0, l1, l2] (psh v st) M' Q) := w_callV mC_224 d224_2 (ci := 12) rfl rfl rfl (Nat.le_of_ble_eq_true rfl) (by decide) rfl hl hk
theorem d224_5 : decode cX12_over 5 = .ok (.ifCond .ne 5, 3) := by decide +kernel
theorem k224_5 {d : Nat} {l0 l1 l2 : Option PV} {st : List PV} {M : Mem} {Q : Option PV → Mem → Prop} {x : Int32} : WP d 224 5 [l0, l1, l2] (vi x :: st) M Q = (if x = 0 then WP d 224 8 [l0, l1, l2] (st) M Q else WP d 224 10 [l0, l1, l2] (st) M Q) := w_if_ne mC_224 d224_5 (by decide)
theorem d224_8 : decode cX12_over 8 = .ok (.iconst (-1), 1) := by decide +kernel
theorem k224_8 {d : Nat} {l0 l1 l2 : Option PV} {st : List PV} {M : Mem} {Q : Option PV → Mem → Prop} : WP d 224 8 [l0, l1, l2] (st) M Q = WP d 224 9 [l0, l1, l2] (vi (-1) :: st) M Q := w_iconst mC_224 d224_8 (by decide)
theorem d224_9 : decode cX12_over 9 = .ok (.ireturn, 1) := by decide +kernel
theorem k224_9 {d : Nat} {l0 l1 l2 : Option PV} {M : Mem} {Q : Option PV → Mem → Prop} {x : Int32} : WP d 224 9 [l0, l1, l2] ([vi x]) M Q = Q (some (vi x)) M := w_iret mC_224 d224_9 rfl
theorem d224_10 : decode cX12_over 10 = .ok (.aload_n 0, 1) := by decide +kernel
theorem k224_10 {d x : Nat} {l1 l2 : Option PV} {st : List PV} {M : Mem} {Q : Option PV → Mem → Prop} : WP d 224 10 [some (vr x), l1, l2] (st) M Q = WP d 224 11 [some (vr x), l1, l2] (vr x :: st) M Q := w1 mC_224 d224_10 rfl rfl
theorem d224_11 : decode cX12_over 11 = .ok (.iload_n 1, 1) := by decide +kernel
theorem k224_11 {d : Nat} {x : Int32} {l0 l2 : Option PV} {st : List PV} {M : Mem} {Q : Option PV → Mem → Prop} : WP d 224 11 [l0, some (vi x), l2] (st) M Q = WP d 224 12 [l0, some (vi x), l2] (vi x :: st) M Q := w1 mC_224 d224_11 rfl rfl
theorem d224_12 : decode cX12_over 12 = .ok (.invokevirtual 231, 3) := by decide +kernel
theorem k224_12 {d : Nat} {l0 l1 l2 : Option PV} {st : List PV} {M : Mem} {Q : Option PV → Mem → Prop} {a0 : Int32} {r : Nat} (hl : szL st ≤ 8) (hk : mK M r = 12) : WP (d + 1) 224 12 [l0, l1, l2] (vi a0 :: vr r :: st) M Q = WP d 181 0 [some (vr r), some (vi a0)] [] M (fun v M' => WP (d + 1) 224 15 [l0, l1, l2] (psh v st) M' Q) := w_callV mC_224 d224_12 (ci := 12) rfl rfl rfl (Nat.le_of_ble_eq_true rfl) (by decide) rfl hl hk
theorem d224_15 : decode cX12_over 15 = .ok (.iconst (-1), 1) := by decide +kernel
theorem k224_15 {d : Nat} {l0 l1 l2 : Option PV} {st : List PV} {M : Mem} {Q : Option PV → Mem → Prop} : WP d 224 15 [l0, l1, l2] (st) M Q = WP d 224 16 [l0, l1, l2] (vi (-1) :: st) M Q := w_iconst mC_224 d224_15 (by decide)
theorem d224_16 : decode cX12_over 16 = .ok (.if_icmp .ne 6, 3) := by decide +kernel
theorem k224_16 {d : Nat} {l0 l1 l2 : Option PV} {st : List PV} {M : Mem} {Q : Option PV → Mem → Prop} {x y : Int32} : WP d 224 16 [l0, l1, l2] (vi y :: vi x :: st) M Q = (if x = y then WP d 224 19 [l0, l1, l2] (st) M Q else WP d 224 22 [l0, l1, l2] (st) M Q) := w_ic_ne mC_224 d224_16 (by decide)
theorem d224_19 : decode cX12_over 19 = .ok (.bipush (-5), 2) := by decide +kernel
theorem k224_19 {d : Nat} {l0 l1 l2 : Option PV} {st : List PV} {M : Mem} {Q : Option PV → Mem → Prop} : WP d 224 19 [l0, l1, l2] (st) M Q = WP d 224 21 [l0, l1, l2] (vi (-5) :: st) M Q := w_bipush mC_224 d224_19 (by decide)
theorem d224_21 : decode cX12_over 21 = .ok (.ireturn, 1) := by decide +kernel
theorem k224_21 {d : Nat} {l0 l1 l2 : Option PV} {M : Mem} {Q : Option PV → Mem → Prop} {x : Int32} : WP d 224 21 [l0, l1, l2] ([vi x]) M Q = Q (some (vi x)) M := w_iret mC_224 d224_21 rfl
theorem d224_22 : decode cX12_over 22 = .ok (.aload_n 0, 1) := by decide +kernel
theorem k224_22 {d x : Nat} {l1 l2 : Option PV} {st : List PV} {M : Mem} {Q : Option PV → Mem → Prop} : WP d 224 22 [some (vr x), l1, l2] (st) M Q = WP d 224 23 [some (vr x), l1, l2] (vr x :: st) M Q := w1 mC_224 d224_22 rfl rfl
theorem d224_23 : decode cX12_over 23 = .ok (.iload_n 1, 1) := by decide +kernel
theorem k224_23 {d : Nat} {x : Int32} {l0 l2 : Option PV} {st : List PV} {M : Mem} {Q : Option PV → Mem → Prop} : WP d 224 23 [l0, some (vi x), l2] (st) M Q = WP d 224 24 [l0, some (vi x), l2] (vi x :: st) M Q := w1 mC_224 d224_23 rfl rfl
theorem d224_24 : decode cX12_over 24 = .ok (.invokevirtual 228, 3) := by decide +kernel
theorem k224_24 {d : Nat} {l0 l1 l2 : Option PV} {st : List PV} {M : Mem} {Q : Option PV → Mem → Prop} {a0 : Int32} {r : Nat} (hl : szL st ≤ 8) (hk : mK M r = 12) : WP (d + 1) 224 24 [l0, l1, l2] (vi a0 :: vr r :: st) M Q = WP d 182 0 [some (vr r), some (vi a0)] [] M (fun v M' => WP (d + 1) 224 27 [l0, l1, l2] (psh v st) M' Q) := w_callV mC_224 d224_24 (ci := 12) rfl rfl rfl (Nat.le_of_ble_eq_true rfl) (by decide) rfl hl hk
theorem d224_27 : decode cX12_over 27 = .ok (.istore_n 2, 1) := by decide +kernel
theorem k224_27 {d : Nat} {l0 l1 l2 : Option PV} {st : List PV} {M : Mem} {Q : Option PV → Mem → Prop} {x : Int32} : WP d 224 27 [l0, l1, l2] (vi x :: st) M Q = WP d 224 28 [l0, l1, some (vi x)] (st) M Q := w1 mC_224 d224_27 rfl rfl
theorem d224_28 : decode cX12_over 28 = .ok (.aload_n 0, 1) := by decide +kernel
theorem k224_28 {d x : Nat} {l1 l2 : Option PV} {st : List PV} {M : Mem} {Q : Option PV → Mem → Prop} : WP d 224 28 [some (vr x), l1, l2] (st) M Q = WP d 224 29 [some (vr x), l1, l2] (vr x :: st) M Q := w1 mC_224 d224_28 rfl rfl
theorem d224_29 : decode cX12_over 29 = .ok (.getfield 9, 3) := by decide +kernel
theorem k224_29 {d : Nat} {l0 l1 l2 : Option PV} {st : List PV} {M : Mem} {Q : Option PV → Mem → Prop} {r : Nat} (hk : mK M r = 12) : WP d 224 29 [l0, l1, l2] (vr r :: st) M Q = WP d 224 32 [l0, l1, l2] (vr (mR M r 2) :: st) M Q := w_getr mC_224 d224_29 fE_12_9 rfl (by rw [hk]; rfl)
theorem d224_32 : decode cX12_over 32 = .ok (.bipush 32, 2) := by decide +kernel
theorem k224_32 {d : Nat} {l0 l1 l2 : Option PV} {st : List PV} {M : Mem} {Q : Option PV → Mem → Prop} : WP d 224 32 [l0, l1, l2] (st) M Q = WP d 224 34 [l0, l1, l2] (vi 32 :: st) M Q := w_bipush mC_224 d224_32 (by decide)
theorem d224_34 : decode cX12_over 34 = .ok (.iload_n 1, 1) := by decide +kernel
theorem k224_34 {d : Nat} {x : Int32} {l0 l2 : Option PV} {st : List PV} {M : Mem} {Q : Option PV → Mem → Prop} : WP d 224 34 [l0, some (vi x), l2] (st) M Q = WP d 224 35 [l0, some (vi x), l2] (vi x :: st) M Q := w1 mC_224 d224_34 rfl rfl
theorem d224_35 : decode cX12_over 35 = .ok (.iadd, 1) := by decide +kernel
theorem k224_35 {d : Nat} {l0 l1 l2 : Option PV} {st : List PV} {M : Mem} {Q : Option PV → Mem → Prop} {x y : Int32} : WP d 224 35 [l0, l1, l2] (vi y :: vi x :: st) M Q = WP d 224 36 [l0, l1, l2] (vi (x + y) :: st) M Q := w1 mC_224 d224_35 rfl rfl
theorem d224_36 : decode cX12_over 36 = .ok (.iconst (-1), 1) := by decide +kernel
theorem k224_36 {d : Nat} {l0 l1 l2 : Option PV} {st : List PV} {M : Mem} {Q : Option PV → Mem → Prop} : WP d 224 36 [l0, l1, l2] (st) M Q = WP d 224 37 [l0, l1, l2] (vi (-1) :: st) M Q := w_iconst mC_224 d224_36 (by decide)
theorem d224_37 : decode cX12_over 37 = .ok (.iastore, 1) := by decide +kernel
theorem k224_37 {d : Nat} {l0 l1 l2 : Option PV} {st : List PV} {M : Mem} {Q : Option PV → Mem → Prop} {r : Nat} {j x : Int32} (hk : mK M r = 13) (hj : inb j (mN M r)) (h1 : r ≠ 1) : WP d 224 37 [l0, l1, l2] (vi x :: vi j :: vr r :: st) M Q = WP d 224 38 [l0, l1, l2] (st) (sI M r (ix j) x) Q := w_iast mC_224 d224_37 hk hj h1
theorem d224_38 : decode cX12_over 38 = .ok (.aload_n 0, 1) := by decide +kernel
theorem k224_38 {d x : Nat} {l1 l2 : Option PV} {st : List PV} {M : Mem} {Q : Option PV → Mem → Prop} : WP d 224 38 [some (vr x), l1, l2] (st) M Q = WP d 224 39 [some (vr x), l1, l2] (vr x :: st) M Q := w1 mC_224 d224_38 rfl rfl
theorem d224_39 : decode cX12_over 39 = .ok (.getfield 9, 3) := by decide +kernel
theorem k224_39 {d : Nat} {l0 l1 l2 : Option PV} {st : List PV} {M : Mem} {Q : Option PV → Mem → Prop} {r : Nat} (hk : mK M r = 12) : WP d 224 39 [l0, l1, l2] (vr r :: st) M Q = WP d 224 42 [l0, l1, l2] (vr (mR M r 2) :: st) M Q := w_getr mC_224 d224_39 fE_12_9 rfl (by rw [hk]; rfl)
theorem d224_42 : decode cX12_over 42 = .ok (.bipush 40, 2) := by decide +kernel
theorem k224_42 {d : Nat} {l0 l1 l2 : Option PV} {st : List PV} {M : Mem} {Q : Option PV → Mem → Prop} : WP d 224 42 [l0, l1, l2] (st) M Q = WP d 224 44 [l0, l1, l2] (vi 40 :: st) M Q := w_bipush mC_224 d224_42 (by decide)
theorem d224_44 : decode cX12_over 44 = .ok (.iload_n 1, 1) := by decide +kernel
theorem k224_44 {d : Nat} {x : Int32} {l0 l2 : Option PV} {st : List PV} {M : Mem} {Q : Option PV → Mem → Prop} : WP d 224 44 [l0, some (vi x), l2] (st) M Q = WP d 224 45 [l0, some (vi x), l2] (vi x :: st) M Q := w1 mC_224 d224_44 rfl rfl
theorem d224_45 : decode cX12_over 45 = .ok (.iadd, 1) := by decide +kernel
theorem k224_45 {d : Nat} {l0 l1 l2 : Option PV} {st : List PV} {M : Mem} {Q : Option PV → Mem → Prop} {x y : Int32} : WP d 224 45 [l0, l1, l2] (vi y :: vi x :: st) M Q = WP d 224 46 [l0, l1, l2] (vi (x + y) :: st) M Q := w1 mC_224 d224_45 rfl rfl
theorem d224_46 : decode cX12_over 46 = .ok (.iconst 0, 1) := by decide +kernel
theorem k224_46 {d : Nat} {l0 l1 l2 : Option PV} {st : List PV} {M : Mem} {Q : Option PV → Mem → Prop} : WP d 224 46 [l0, l1, l2] (st) M Q = WP d 224 47 [l0, l1, l2] (vi 0 :: st) M Q := w_iconst mC_224 d224_46 (by decide)
theorem d224_47 : decode cX12_over 47 = .ok (.iastore, 1) := by decide +kernel
theorem k224_47 {d : Nat} {l0 l1 l2 : Option PV} {st : List PV} {M : Mem} {Q : Option PV → Mem → Prop} {r : Nat} {j x : Int32} (hk : mK M r = 13) (hj : inb j (mN M r)) (h1 : r ≠ 1) : WP d 224 47 [l0, l1, l2] (vi x :: vi j :: vr r :: st) M Q = WP d 224 48 [l0, l1, l2] (st) (sI M r (ix j) x) Q := w_iast mC_224 d224_47 hk hj h1
theorem d224_48 : decode cX12_over 48 = .ok (.aload_n 0, 1) := by decide +kernel
theorem k224_48 {d x : Nat} {l1 l2 : Option PV} {st : List PV} {M : Mem} {Q : Option PV → Mem → Prop} : WP d 224 48 [some (vr x), l1, l2] (st) M Q = WP d 224 49 [some (vr x), l1, l2] (vr x :: st) M Q := w1 mC_224 d224_48 rfl rfl
theorem d224_49 : decode cX12_over 49 = .ok (.getfield 51, 3) := by decide +kernel
theorem k224_49 {d : Nat} {l0 l1 l2 : Option PV} {st : List PV} {M : Mem} {Q : Option PV → Mem → Prop} {r : Nat} (hk : mK M r = 12) : WP d 224 49 [l0, l1, l2] (vr r :: st) M Q = WP d 224 52 [l0, l1, l2] (vr (mR M r 22) :: st) M Q := w_getr mC_224 d224_49 fE_12_51 rfl (by rw [hk]; rfl)
theorem d224_52 : decode cX12_over 52 = .ok (.iconst 4, 1) := by decide +kernel
theorem k224_52 {d : Nat} {l0 l1 l2 : Option PV} {st : List PV} {M : Mem} {Q : Option PV → Mem → Prop} : WP d 224 52 [l0, l1, l2] (st) M Q = WP d 224 53 [l0, l1, l2] (vi 4 :: st) M Q := w_iconst mC_224 d224_52 (by decide)
theorem d224_53 : decode cX12_over 53 = .ok (.dup2, 1) := by decide +kernel
theorem k224_53 {d : Nat} {l0 l1 l2 : Option PV} {st : List PV} {M : Mem} {Q : Option PV → Mem → Prop} {a : Int32} {b : Nat} : WP d 224 53 [l0, l1, l2] (vi a :: vr b :: st) M Q = WP d 224 54 [l0, l1, l2] (vi a :: vr b :: vi a :: vr b :: st) M Q := w1 mC_224 d224_53 rfl rfl
theorem d224_54 : decode cX12_over 54 = .ok (.iaload, 1) := by decide +kernel
theorem k224_54 {d : Nat} {l0 l1 l2 : Option PV} {st : List PV} {M : Mem} {Q : Option PV → Mem → Prop} {r : Nat} {j : Int32} (hk : mK M r = 13) (hj : inb j (mN M r)) (h1 : r ≠ 1) : WP d 224 54 [l0, l1, l2] (vi j :: vr r :: st) M Q = WP d 224 55 [l0, l1, l2] (vi (mI M r (ix j)) :: st) M Q := w_iald mC_224 d224_54 (by decide) hk hj h1
theorem d224_55 : decode cX12_over 55 = .ok (.iconst 1, 1) := by decide +kernel
theorem k224_55 {d : Nat} {l0 l1 l2 : Option PV} {st : List PV} {M : Mem} {Q : Option PV → Mem → Prop} : WP d 224 55 [l0, l1, l2] (st) M Q = WP d 224 56 [l0, l1, l2] (vi 1 :: st) M Q := w_iconst mC_224 d224_55 (by decide)
theorem d224_56 : decode cX12_over 56 = .ok (.iadd, 1) := by decide +kernel
theorem k224_56 {d : Nat} {l0 l1 l2 : Option PV} {st : List PV} {M : Mem} {Q : Option PV → Mem → Prop} {x y : Int32} : WP d 224 56 [l0, l1, l2] (vi y :: vi x :: st) M Q = WP d 224 57 [l0, l1, l2] (vi (x + y) :: st) M Q := w1 mC_224 d224_56 rfl rfl
theorem d224_57 : decode cX12_over 57 = .ok (.iastore, 1) := by decide +kernel
theorem k224_57 {d : Nat} {l0 l1 l2 : Option PV} {st : List PV} {M : Mem} {Q : Option PV → Mem → Prop} {r : Nat} {j x : Int32} (hk : mK M r = 13) (hj : inb j (mN M r)) (h1 : r ≠ 1) : WP d 224 57 [l0, l1, l2] (vi x :: vi j :: vr r :: st) M Q = WP d 224 58 [l0, l1, l2] (st) (sI M r (ix j) x) Q := w_iast mC_224 d224_57 hk hj h1
theorem d224_58 : decode cX12_over 58 = .ok (.iload_n 2, 1) := by decide +kernel
theorem k224_58 {d : Nat} {x : Int32} {l0 l1 : Option PV} {st : List PV} {M : Mem} {Q : Option PV → Mem → Prop} : WP d 224 58 [l0, l1, some (vi x)] (st) M Q = WP d 224 59 [l0, l1, some (vi x)] (vi x :: st) M Q := w1 mC_224 d224_58 rfl rfl
theorem d224_59 : decode cX12_over 59 = .ok (.ireturn, 1) := by decide +kernel
theorem k224_59 {d : Nat} {l0 l1 l2 : Option PV} {M : Mem} {Q : Option PV → Mem → Prop} {x : Int32} : WP d 224 59 [l0, l1, l2] ([vi x]) M Q = Q (some (vi x)) M := w_iret mC_224 d224_59 rfl
theorem d225_0 : decode cX12_led 0 = .ok (.iload_n 1, 1) := by decide +kernel
theorem k225_0 {d : Nat} {x : Int32} {l0 : Option PV} {st : List PV} {M : Mem} {Q : Option PV → Mem → Prop} : WP d 225 0 [l0, some (vi x)] (st) M Q = WP d 225 1 [l0, some (vi x)] (vi x :: st) M Q := w1 mC_225 d225_0 rfl rfl
theorem d225_1 : decode cX12_led 1 = .ok (.iconst 0, 1) := by decide +kernel
theorem k225_1 {d : Nat} {l0 l1 : Option PV} {st : List PV} {M : Mem} {Q : Option PV → Mem → Prop} : WP d 225 1 [l0, l1] (st) M Q = WP d 225 2 [l0, l1] (vi 0 :: st) M Q := w_iconst mC_225 d225_1 (by decide)
theorem d225_2 : decode cX12_led 2 = .ok (.iconst 4, 1) := by decide +kernel
theorem k225_2 {d : Nat} {l0 l1 : Option PV} {st : List PV} {M : Mem} {Q : Option PV → Mem → Prop} : WP d 225 2 [l0, l1] (st) M Q = WP d 225 3 [l0, l1] (vi 4 :: st) M Q := w_iconst mC_225 d225_2 (by decide)
theorem d225_3 : decode cX12_led 3 = .ok (.invokestatic 104, 3) := by decide +kernel
theorem k225_3 {d : Nat} {l0 l1 : Option PV} {st : List PV} {M : Mem} {Q : Option PV → Mem → Prop} {a0 a1 a2 : Int32} (hl : szL st ≤ 8) : WP (d + 1) 225 3 [l0, l1] (vi a2 :: vi a1 :: vi a0 :: st) M Q = WP d 145 0 [some (vi a0), some (vi a1), some (vi a2)] [] M (fun v M' => WP (d + 1) 225 6 [l0, l1] (psh v st) M' Q) := w_callS mC_225 d225_3 rfl rfl (Nat.le_of_ble_eq_true rfl) (by decide) rfl hl
theorem d225_6 : decode cX12_led 6 = .ok (.ifCond .eq 12, 3) := by decide +kernel
theorem k225_6 {d : Nat} {l0 l1 : Option PV} {st : List PV} {M : Mem} {Q : Option PV → Mem → Prop} {x : Int32} : WP d 225 6 [l0, l1] (vi x :: st) M Q = (if x = 0 then WP d 225 18 [l0, l1] (st) M Q else WP d 225 9 [l0, l1] (st) M Q) := w_if_eq mC_225 d225_6 (by decide)
theorem d225_9 : decode cX12_led 9 = .ok (.aload_n 0, 1) := by decide +kernel
theorem k225_9 {d x : Nat} {l1 : Option PV} {st : List PV} {M : Mem} {Q : Option PV → Mem → Prop} : WP d 225 9 [some (vr x), l1] (st) M Q = WP d 225 10 [some (vr x), l1] (vr x :: st) M Q := w1 mC_225 d225_9 rfl rfl
theorem d225_10 : decode cX12_led 10 = .ok (.getfield 51, 3) := by decide +kernel
theorem k225_10 {d : Nat} {l0 l1 : Option PV} {st : List PV} {M : Mem} {Q : Option PV → Mem → Prop} {r : Nat} (hk : mK M r = 12) : WP d 225 10 [l0, l1] (vr r :: st) M Q = WP d 225 13 [l0, l1] (vr (mR M r 22) :: st) M Q := w_getr mC_225 d225_10 fE_12_51 rfl (by rw [hk]; rfl)
theorem d225_13 : decode cX12_led 13 = .ok (.iload_n 1, 1) := by decide +kernel
theorem k225_13 {d : Nat} {x : Int32} {l0 : Option PV} {st : List PV} {M : Mem} {Q : Option PV → Mem → Prop} : WP d 225 13 [l0, some (vi x)] (st) M Q = WP d 225 14 [l0, some (vi x)] (vi x :: st) M Q := w1 mC_225 d225_13 rfl rfl
theorem d225_14 : decode cX12_led 14 = .ok (.iaload, 1) := by decide +kernel
theorem k225_14 {d : Nat} {l0 l1 : Option PV} {st : List PV} {M : Mem} {Q : Option PV → Mem → Prop} {r : Nat} {j : Int32} (hk : mK M r = 13) (hj : inb j (mN M r)) (h1 : r ≠ 1) : WP d 225 14 [l0, l1] (vi j :: vr r :: st) M Q = WP d 225 15 [l0, l1] (vi (mI M r (ix j)) :: st) M Q := w_iald mC_225 d225_14 (by decide) hk hj h1
theorem d225_15 : decode cX12_led 15 = .ok (.goto 4, 3) := by decide +kernel
theorem k225_15 {d : Nat} {l0 l1 : Option PV} {st : List PV} {M : Mem} {Q : Option PV → Mem → Prop} : WP d 225 15 [l0, l1] (st) M Q = WP d 225 19 [l0, l1] (st) M Q := w_goto mC_225 d225_15 (by decide)
theorem d225_18 : decode cX12_led 18 = .ok (.iconst (-1), 1) := by decide +kernel
theorem k225_18 {d : Nat} {l0 l1 : Option PV} {st : List PV} {M : Mem} {Q : Option PV → Mem → Prop} : WP d 225 18 [l0, l1] (st) M Q = WP d 225 19 [l0, l1] (vi (-1) :: st) M Q := w_iconst mC_225 d225_18 (by decide)
theorem d225_19 : decode cX12_led 19 = .ok (.ireturn, 1) := by decide +kernel
theorem k225_19 {d : Nat} {l0 l1 : Option PV} {M : Mem} {Q : Option PV → Mem → Prop} {x : Int32} : WP d 225 19 [l0, l1] ([vi x]) M Q = Q (some (vi x)) M := w_iret mC_225 d225_19 rfl
theorem d226_0 : decode cX12_image 0 = .ok (.aload_n 0, 1) := by decide +kernel
theorem k226_0 {d x : Nat} {l1 : Option PV} {st : List PV} {M : Mem} {Q : Option PV → Mem → Prop} : WP d 226 0 [some (vr x), l1] (st) M Q = WP d 226 1 [some (vr x), l1] (vr x :: st) M Q := w1 mC_226 d226_0 rfl rfl
theorem d226_1 : decode cX12_image 1 = .ok (.iconst 1, 1) := by decide +kernel
theorem k226_1 {d : Nat} {l0 l1 : Option PV} {st : List PV} {M : Mem} {Q : Option PV → Mem → Prop} : WP d 226 1 [l0, l1] (st) M Q = WP d 226 2 [l0, l1] (vi 1 :: st) M Q := w_iconst mC_226 d226_1 (by decide)
theorem d226_2 : decode cX12_image 2 = .ok (.putfield 332, 3) := by decide +kernel
theorem k226_2 {d : Nat} {l0 l1 : Option PV} {st : List PV} {M : Mem} {Q : Option PV → Mem → Prop} {r : Nat} {x : Int32} (hk : mK M r = 12) (hx : x = 0 ∨ x = 1) : WP d 226 2 [l0, l1] (vi x :: vr r :: st) M Q = WP d 226 5 [l0, l1] (st) (sI M r 23 x) Q := w_putb mC_226 d226_2 fE_12_332 (by decide +kernel) (by rw [hk]; rfl) hx
theorem d226_5 : decode cX12_image 5 = .ok (.aload_n 0, 1) := by decide +kernel
theorem k226_5 {d x : Nat} {l1 : Option PV} {st : List PV} {M : Mem} {Q : Option PV → Mem → Prop} : WP d 226 5 [some (vr x), l1] (st) M Q = WP d 226 6 [some (vr x), l1] (vr x :: st) M Q := w1 mC_226 d226_5 rfl rfl
theorem d226_6 : decode cX12_image 6 = .ok (.aload_n 0, 1) := by decide +kernel
theorem k226_6 {d x : Nat} {l1 : Option PV} {st : List PV} {M : Mem} {Q : Option PV → Mem → Prop} : WP d 226 6 [some (vr x), l1] (st) M Q = WP d 226 7 [some (vr x), l1] (vr x :: st) M Q := w1 mC_226 d226_6 rfl rfl
theorem d226_7 : decode cX12_image 7 = .ok (.getfield 100, 3) := by decide +kernel
theorem k226_7 {d : Nat} {l0 l1 : Option PV} {st : List PV} {M : Mem} {Q : Option PV → Mem → Prop} {r : Nat} (hk : mK M r = 12) : WP d 226 7 [l0, l1] (vr r :: st) M Q = WP d 226 10 [l0, l1] (vi (mI M r 0) :: st) M Q := w_get mC_226 d226_7 fE_12_100 rfl (by rw [hk]; rfl)
theorem d226_10 : decode cX12_image 10 = .ok (.putfield 335, 3) := by decide +kernel
theorem k226_10 {d : Nat} {l0 l1 : Option PV} {st : List PV} {M : Mem} {Q : Option PV → Mem → Prop} {r : Nat} {x : Int32} (hk : mK M r = 12) : WP d 226 10 [l0, l1] (vi x :: vr r :: st) M Q = WP d 226 13 [l0, l1] (st) (sI M r 24 x) Q := w_put mC_226 d226_10 fE_12_335 (by decide +kernel) (by rw [hk]; rfl)
theorem d226_13 : decode cX12_image 13 = .ok (.aload_n 0, 1) := by decide +kernel
theorem k226_13 {d x : Nat} {l1 : Option PV} {st : List PV} {M : Mem} {Q : Option PV → Mem → Prop} : WP d 226 13 [some (vr x), l1] (st) M Q = WP d 226 14 [some (vr x), l1] (vr x :: st) M Q := w1 mC_226 d226_13 rfl rfl
theorem d226_14 : decode cX12_image 14 = .ok (.aload_n 0, 1) := by decide +kernel
theorem k226_14 {d x : Nat} {l1 : Option PV} {st : List PV} {M : Mem} {Q : Option PV → Mem → Prop} : WP d 226 14 [some (vr x), l1] (st) M Q = WP d 226 15 [some (vr x), l1] (vr x :: st) M Q := w1 mC_226 d226_14 rfl rfl
theorem d226_15 : decode cX12_image 15 = .ok (.getfield 108, 3) := by decide +kernel
theorem k226_15 {d : Nat} {l0 l1 : Option PV} {st : List PV} {M : Mem} {Q : Option PV → Mem → Prop} {r : Nat} (hk : mK M r = 12) : WP d 226 15 [l0, l1] (vr r :: st) M Q = WP d 226 18 [l0, l1] (vi (mI M r 1) :: st) M Q := w_get mC_226 d226_15 fE_12_108 rfl (by rw [hk]; rfl)
theorem d226_18 : decode cX12_image 18 = .ok (.putfield 338, 3) := by decide +kernel
theorem k226_18 {d : Nat} {l0 l1 : Option PV} {st : List PV} {M : Mem} {Q : Option PV → Mem → Prop} {r : Nat} {x : Int32} (hk : mK M r = 12) : WP d 226 18 [l0, l1] (vi x :: vr r :: st) M Q = WP d 226 21 [l0, l1] (st) (sI M r 25 x) Q := w_put mC_226 d226_18 fE_12_338 (by decide +kernel) (by rw [hk]; rfl)
theorem d226_21 : decode cX12_image 21 = .ok (.aload_n 0, 1) := by decide +kernel
theorem k226_21 {d x : Nat} {l1 : Option PV} {st : List PV} {M : Mem} {Q : Option PV → Mem → Prop} : WP d 226 21 [some (vr x), l1] (st) M Q = WP d 226 22 [some (vr x), l1] (vr x :: st) M Q := w1 mC_226 d226_21 rfl rfl
theorem d226_22 : decode cX12_image 22 = .ok (.aload_n 0, 1) := by decide +kernel
theorem k226_22 {d x : Nat} {l1 : Option PV} {st : List PV} {M : Mem} {Q : Option PV → Mem → Prop} : WP d 226 22 [some (vr x), l1] (st) M Q = WP d 226 23 [some (vr x), l1] (vr x :: st) M Q := w1 mC_226 d226_22 rfl rfl
theorem d226_23 : decode cX12_image 23 = .ok (.getfield 54, 3) := by decide +kernel
theorem k226_23 {d : Nat} {l0 l1 : Option PV} {st : List PV} {M : Mem} {Q : Option PV → Mem → Prop} {r : Nat} (hk : mK M r = 12) : WP d 226 23 [l0, l1] (vr r :: st) M Q = WP d 226 26 [l0, l1] (vr (mR M r 26) :: st) M Q := w_getr mC_226 d226_23 fE_12_54 rfl (by rw [hk]; rfl)
theorem d226_26 : decode cX12_image 26 = .ok (.invokevirtual 272, 3) := by decide +kernel
theorem k226_26 {d : Nat} {l0 l1 : Option PV} {st : List PV} {M : Mem} {Q : Option PV → Mem → Prop} {a0 : Nat} {r : Nat} (hl : szL st ≤ 8) (hk : mK M r = 12) : WP (d + 1) 226 26 [l0, l1] (vr a0 :: vr r :: st) M Q = WP d 190 0 [some (vr r), some (vr a0), none] [] M (fun v M' => WP (d + 1) 226 29 [l0, l1] (psh v st) M' Q) := w_callV mC_226 d226_26 (ci := 12) rfl rfl rfl (Nat.le_of_ble_eq_true rfl) (by decide) rfl hl hk
theorem d226_29 : decode cX12_image 29 = .ok (.iconst 0, 1) := by decide +kernel
theorem k226_29 {d : Nat} {l0 l1 : Option PV} {st : List PV} {M : Mem} {Q : Option PV → Mem → Prop} : WP d 226 29 [l0, l1] (st) M Q = WP d 226 30 [l0, l1] (vi 0 :: st) M Q := w_iconst mC_226 d226_29 (by decide)
theorem d226_30 : decode cX12_image 30 = .ok (.istore_n 1, 1) := by decide +kernel
theorem k226_30 {d : Nat} {l0 l1 : Option PV} {st : List PV} {M : Mem} {Q : Option PV → Mem → Prop} {x : Int32} : WP d 226 30 [l0, l1] (vi x :: st) M Q = WP d 226 31 [l0, some (vi x)] (st) M Q := w1 mC_226 d226_30 rfl rfl
theorem d226_31 : decode cX12_image 31 = .ok (.iload_n 1, 1) := by decide +kernel
theorem k226_31 {d : Nat} {x : Int32} {l0 : Option PV} {st : List PV} {M : Mem} {Q : Option PV → Mem → Prop} : WP d 226 31 [l0, some (vi x)] (st) M Q = WP d 226 32 [l0, some (vi x)] (vi x :: st) M Q := w1 mC_226 d226_31 rfl rfl
theorem d226_32 : decode cX12_image 32 = .ok (.iconst 5, 1) := by decide +kernel
theorem k226_32 {d : Nat} {l0 l1 : Option PV} {st : List PV} {M : Mem} {Q : Option PV → Mem → Prop} : WP d 226 32 [l0, l1] (st) M Q = WP d 226 33 [l0, l1] (vi 5 :: st) M Q := w_iconst mC_226 d226_32 (by decide)
theorem d226_33 : decode cX12_image 33 = .ok (.if_icmp .ge 21, 3) := by decide +kernel
theorem k226_33 {d : Nat} {l0 l1 : Option PV} {st : List PV} {M : Mem} {Q : Option PV → Mem → Prop} {x y : Int32} : WP d 226 33 [l0, l1] (vi y :: vi x :: st) M Q = (if y ≤ x then WP d 226 54 [l0, l1] (st) M Q else WP d 226 36 [l0, l1] (st) M Q) := w_ic_ge mC_226 d226_33 (by decide)
theorem d226_36 : decode cX12_image 36 = .ok (.aload_n 0, 1) := by decide +kernel
theorem k226_36 {d x : Nat} {l1 : Option PV} {st : List PV} {M : Mem} {Q : Option PV → Mem → Prop} : WP d 226 36 [some (vr x), l1] (st) M Q = WP d 226 37 [some (vr x), l1] (vr x :: st) M Q := w1 mC_226 d226_36 rfl rfl
theorem d226_37 : decode cX12_image 37 = .ok (.getfield 57, 3) := by decide +kernel
theorem k226_37 {d : Nat} {l0 l1 : Option PV} {st : List PV} {M : Mem} {Q : Option PV → Mem → Prop} {r : Nat} (hk : mK M r = 12) : WP d 226 37 [l0, l1] (vr r :: st) M Q = WP d 226 40 [l0, l1] (vr (mR M r 27) :: st) M Q := w_getr mC_226 d226_37 fE_12_57 rfl (by rw [hk]; rfl)
theorem d226_40 : decode cX12_image 40 = .ok (.iload_n 1, 1) := by decide +kernel
theorem k226_40 {d : Nat} {x : Int32} {l0 : Option PV} {st : List PV} {M : Mem} {Q : Option PV → Mem → Prop} : WP d 226 40 [l0, some (vi x)] (st) M Q = WP d 226 41 [l0, some (vi x)] (vi x :: st) M Q := w1 mC_226 d226_40 rfl rfl
theorem d226_41 : decode cX12_image 41 = .ok (.aload_n 0, 1) := by decide +kernel
theorem k226_41 {d x : Nat} {l1 : Option PV} {st : List PV} {M : Mem} {Q : Option PV → Mem → Prop} : WP d 226 41 [some (vr x), l1] (st) M Q = WP d 226 42 [some (vr x), l1] (vr x :: st) M Q := w1 mC_226 d226_41 rfl rfl
theorem d226_42 : decode cX12_image 42 = .ok (.getfield 51, 3) := by decide +kernel
theorem k226_42 {d : Nat} {l0 l1 : Option PV} {st : List PV} {M : Mem} {Q : Option PV → Mem → Prop} {r : Nat} (hk : mK M r = 12) : WP d 226 42 [l0, l1] (vr r :: st) M Q = WP d 226 45 [l0, l1] (vr (mR M r 22) :: st) M Q := w_getr mC_226 d226_42 fE_12_51 rfl (by rw [hk]; rfl)
theorem d226_45 : decode cX12_image 45 = .ok (.iload_n 1, 1) := by decide +kernel
theorem k226_45 {d : Nat} {x : Int32} {l0 : Option PV} {st : List PV} {M : Mem} {Q : Option PV → Mem → Prop} : WP d 226 45 [l0, some (vi x)] (st) M Q = WP d 226 46 [l0, some (vi x)] (vi x :: st) M Q := w1 mC_226 d226_45 rfl rfl
theorem d226_46 : decode cX12_image 46 = .ok (.iaload, 1) := by decide +kernel
theorem k226_46 {d : Nat} {l0 l1 : Option PV} {st : List PV} {M : Mem} {Q : Option PV → Mem → Prop} {r : Nat} {j : Int32} (hk : mK M r = 13) (hj : inb j (mN M r)) (h1 : r ≠ 1) : WP d 226 46 [l0, l1] (vi j :: vr r :: st) M Q = WP d 226 47 [l0, l1] (vi (mI M r (ix j)) :: st) M Q := w_iald mC_226 d226_46 (by decide) hk hj h1
theorem d226_47 : decode cX12_image 47 = .ok (.iastore, 1) := by decide +kernel
theorem k226_47 {d : Nat} {l0 l1 : Option PV} {st : List PV} {M : Mem} {Q : Option PV → Mem → Prop} {r : Nat} {j x : Int32} (hk : mK M r = 13) (hj : inb j (mN M r)) (h1 : r ≠ 1) : WP d 226 47 [l0, l1] (vi x :: vi j :: vr r :: st) M Q = WP d 226 48 [l0, l1] (st) (sI M r (ix j) x) Q := w_iast mC_226 d226_47 hk hj h1
theorem d226_48 : decode cX12_image 48 = .ok (.iinc 1 1, 3) := by decide +kernel
theorem k226_48 {d : Nat} {x : Int32} {l0 : Option PV} {st : List PV} {M : Mem} {Q : Option PV → Mem → Prop} : WP d 226 48 [l0, some (vi x)] (st) M Q = WP d 226 51 [l0, some (vi (x + 1))] (st) M Q := w_iinc mC_226 d226_48 rfl (by decide) rfl
theorem d226_51 : decode cX12_image 51 = .ok (.goto (-20), 3) := by decide +kernel
theorem k226_51 {d : Nat} {l0 l1 : Option PV} {st : List PV} {M : Mem} {Q : Option PV → Mem → Prop} : WP d 226 51 [l0, l1] (st) M Q = WP d 226 31 [l0, l1] (st) M Q := w_goto mC_226 d226_51 (by decide)
theorem d226_54 : decode cX12_image 54 = .ok (.aload_n 0, 1) := by decide +kernel
theorem k226_54 {d x : Nat} {l1 : Option PV} {st : List PV} {M : Mem} {Q : Option PV → Mem → Prop} : WP d 226 54 [some (vr x), l1] (st) M Q = WP d 226 55 [some (vr x), l1] (vr x :: st) M Q := w1 mC_226 d226_54 rfl rfl
theorem d226_55 : decode cX12_image 55 = .ok (.getfield 51, 3) := by decide +kernel
theorem k226_55 {d : Nat} {l0 l1 : Option PV} {st : List PV} {M : Mem} {Q : Option PV → Mem → Prop} {r : Nat} (hk : mK M r = 12) : WP d 226 55 [l0, l1] (vr r :: st) M Q = WP d 226 58 [l0, l1] (vr (mR M r 22) :: st) M Q := w_getr mC_226 d226_55 fE_12_51 rfl (by rw [hk]; rfl)
theorem d226_58 : decode cX12_image 58 = .ok (.iconst 0, 1) := by decide +kernel
theorem k226_58 {d : Nat} {l0 l1 : Option PV} {st : List PV} {M : Mem} {Q : Option PV → Mem → Prop} : WP d 226 58 [l0, l1] (st) M Q = WP d 226 59 [l0, l1] (vi 0 :: st) M Q := w_iconst mC_226 d226_58 (by decide)
theorem d226_59 : decode cX12_image 59 = .ok (.iaload, 1) := by decide +kernel
theorem k226_59 {d : Nat} {l0 l1 : Option PV} {st : List PV} {M : Mem} {Q : Option PV → Mem → Prop} {r : Nat} {j : Int32} (hk : mK M r = 13) (hj : inb j (mN M r)) (h1 : r ≠ 1) : WP d 226 59 [l0, l1] (vi j :: vr r :: st) M Q = WP d 226 60 [l0, l1] (vi (mI M r (ix j)) :: st) M Q := w_iald mC_226 d226_59 (by decide) hk hj h1
theorem d226_60 : decode cX12_image 60 = .ok (.ireturn, 1) := by decide +kernel
theorem k226_60 {d : Nat} {l0 l1 : Option PV} {M : Mem} {Q : Option PV → Mem → Prop} {x : Int32} : WP d 226 60 [l0, l1] ([vi x]) M Q = Q (some (vi x)) M := w_iret mC_226 d226_60 rfl
theorem d227_0 : decode cX12_back 0 = .ok (.aload_n 0, 1) := by decide +kernel
theorem k227_0 {d x : Nat} {l1 : Option PV} {st : List PV} {M : Mem} {Q : Option PV → Mem → Prop} : WP d 227 0 [some (vr x), l1] (st) M Q = WP d 227 1 [some (vr x), l1] (vr x :: st) M Q := w1 mC_227 d227_0 rfl rfl
theorem d227_1 : decode cX12_back 1 = .ok (.getfield 332, 3) := by decide +kernel
theorem k227_1 {d : Nat} {l0 l1 : Option PV} {st : List PV} {M : Mem} {Q : Option PV → Mem → Prop} {r : Nat} (hk : mK M r = 12) : WP d 227 1 [l0, l1] (vr r :: st) M Q = WP d 227 4 [l0, l1] (vi (mI M r 23) :: st) M Q := w_get mC_227 d227_1 fE_12_332 rfl (by rw [hk]; rfl)
theorem d227_4 : decode cX12_back 4 = .ok (.ifCond .ne 6, 3) := by decide +kernel
theorem k227_4 {d : Nat} {l0 l1 : Option PV} {st : List PV} {M : Mem} {Q : Option PV → Mem → Prop} {x : Int32} : WP d 227 4 [l0, l1] (vi x :: st) M Q = (if x = 0 then WP d 227 7 [l0, l1] (st) M Q else WP d 227 10 [l0, l1] (st) M Q) := w_if_ne mC_227 d227_4 (by decide)
theorem d227_7 : decode cX12_back 7 = .ok (.bipush (-5), 2) := by decide +kernel
theorem k227_7 {d : Nat} {l0 l1 : Option PV} {st : List PV} {M : Mem} {Q : Option PV → Mem → Prop} : WP d 227 7 [l0, l1] (st) M Q = WP d 227 9 [l0, l1] (vi (-5) :: st) M Q := w_bipush mC_227 d227_7 (by decide)
theorem d227_9 : decode cX12_back 9 = .ok (.ireturn, 1) := by decide +kernel
theorem k227_9 {d : Nat} {l0 l1 : Option PV} {M : Mem} {Q : Option PV → Mem → Prop} {x : Int32} : WP d 227 9 [l0, l1] ([vi x]) M Q = Q (some (vi x)) M := w_iret mC_227 d227_9 rfl
theorem d227_10 : decode cX12_back 10 = .ok (.aload_n 0, 1) := by decide +kernel
theorem k227_10 {d x : Nat} {l1 : Option PV} {st : List PV} {M : Mem} {Q : Option PV → Mem → Prop} : WP d 227 10 [some (vr x), l1] (st) M Q = WP d 227 11 [some (vr x), l1] (vr x :: st) M Q := w1 mC_227 d227_10 rfl rfl
theorem d227_11 : decode cX12_back 11 = .ok (.aload_n 0, 1) := by decide +kernel
theorem k227_11 {d x : Nat} {l1 : Option PV} {st : List PV} {M : Mem} {Q : Option PV → Mem → Prop} : WP d 227 11 [some (vr x), l1] (st) M Q = WP d 227 12 [some (vr x), l1] (vr x :: st) M Q := w1 mC_227 d227_11 rfl rfl
theorem d227_12 : decode cX12_back 12 = .ok (.getfield 54, 3) := by decide +kernel
theorem k227_12 {d : Nat} {l0 l1 : Option PV} {st : List PV} {M : Mem} {Q : Option PV → Mem → Prop} {r : Nat} (hk : mK M r = 12) : WP d 227 12 [l0, l1] (vr r :: st) M Q = WP d 227 15 [l0, l1] (vr (mR M r 26) :: st) M Q := w_getr mC_227 d227_12 fE_12_54 rfl (by rw [hk]; rfl)
theorem d227_15 : decode cX12_back 15 = .ok (.aload_n 0, 1) := by decide +kernel
theorem k227_15 {d x : Nat} {l1 : Option PV} {st : List PV} {M : Mem} {Q : Option PV → Mem → Prop} : WP d 227 15 [some (vr x), l1] (st) M Q = WP d 227 16 [some (vr x), l1] (vr x :: st) M Q := w1 mC_227 d227_15 rfl rfl
theorem d227_16 : decode cX12_back 16 = .ok (.getfield 335, 3) := by decide +kernel
theorem k227_16 {d : Nat} {l0 l1 : Option PV} {st : List PV} {M : Mem} {Q : Option PV → Mem → Prop} {r : Nat} (hk : mK M r = 12) : WP d 227 16 [l0, l1] (vr r :: st) M Q = WP d 227 19 [l0, l1] (vi (mI M r 24) :: st) M Q := w_get mC_227 d227_16 fE_12_335 rfl (by rw [hk]; rfl)
theorem d227_19 : decode cX12_back 19 = .ok (.aload_n 0, 1) := by decide +kernel
theorem k227_19 {d x : Nat} {l1 : Option PV} {st : List PV} {M : Mem} {Q : Option PV → Mem → Prop} : WP d 227 19 [some (vr x), l1] (st) M Q = WP d 227 20 [some (vr x), l1] (vr x :: st) M Q := w1 mC_227 d227_19 rfl rfl
theorem d227_20 : decode cX12_back 20 = .ok (.getfield 338, 3) := by decide +kernel
theorem k227_20 {d : Nat} {l0 l1 : Option PV} {st : List PV} {M : Mem} {Q : Option PV → Mem → Prop} {r : Nat} (hk : mK M r = 12) : WP d 227 20 [l0, l1] (vr r :: st) M Q = WP d 227 23 [l0, l1] (vi (mI M r 25) :: st) M Q := w_get mC_227 d227_20 fE_12_338 rfl (by rw [hk]; rfl)
theorem d227_23 : decode cX12_back 23 = .ok (.invokevirtual 268, 3) := by decide +kernel
theorem k227_23 {d : Nat} {l0 l1 : Option PV} {st : List PV} {M : Mem} {Q : Option PV → Mem → Prop} {a1 a2 : Int32} {a0 : Nat} {r : Nat} (hl : szL st ≤ 8) (hk : mK M r = 12) : WP (d + 1) 227 23 [l0, l1] (vi a2 :: vi a1 :: vr a0 :: vr r :: st) M Q = WP d 191 0 [some (vr r), some (vr a0), some (vi a1), some (vi a2), none] [] M (fun v M' => WP (d + 1) 227 26 [l0, l1] (psh v st) M' Q) := w_callV mC_227 d227_23 (ci := 12) rfl rfl rfl (Nat.le_of_ble_eq_true rfl) (by decide) rfl hl hk
theorem d227_26 : decode cX12_back 26 = .ok (.iconst 0, 1) := by decide +kernel
theorem k227_26 {d : Nat} {l0 l1 : Option PV} {st : List PV} {M : Mem} {Q : Option PV → Mem → Prop} : WP d 227 26 [l0, l1] (st) M Q = WP d 227 27 [l0, l1] (vi 0 :: st) M Q := w_iconst mC_227 d227_26 (by decide)
theorem d227_27 : decode cX12_back 27 = .ok (.istore_n 1, 1) := by decide +kernel
theorem k227_27 {d : Nat} {l0 l1 : Option PV} {st : List PV} {M : Mem} {Q : Option PV → Mem → Prop} {x : Int32} : WP d 227 27 [l0, l1] (vi x :: st) M Q = WP d 227 28 [l0, some (vi x)] (st) M Q := w1 mC_227 d227_27 rfl rfl
theorem d227_28 : decode cX12_back 28 = .ok (.iload_n 1, 1) := by decide +kernel
theorem k227_28 {d : Nat} {x : Int32} {l0 : Option PV} {st : List PV} {M : Mem} {Q : Option PV → Mem → Prop} : WP d 227 28 [l0, some (vi x)] (st) M Q = WP d 227 29 [l0, some (vi x)] (vi x :: st) M Q := w1 mC_227 d227_28 rfl rfl
theorem d227_29 : decode cX12_back 29 = .ok (.iconst 5, 1) := by decide +kernel
theorem k227_29 {d : Nat} {l0 l1 : Option PV} {st : List PV} {M : Mem} {Q : Option PV → Mem → Prop} : WP d 227 29 [l0, l1] (st) M Q = WP d 227 30 [l0, l1] (vi 5 :: st) M Q := w_iconst mC_227 d227_29 (by decide)
theorem d227_30 : decode cX12_back 30 = .ok (.if_icmp .ge 21, 3) := by decide +kernel
theorem k227_30 {d : Nat} {l0 l1 : Option PV} {st : List PV} {M : Mem} {Q : Option PV → Mem → Prop} {x y : Int32} : WP d 227 30 [l0, l1] (vi y :: vi x :: st) M Q = (if y ≤ x then WP d 227 51 [l0, l1] (st) M Q else WP d 227 33 [l0, l1] (st) M Q) := w_ic_ge mC_227 d227_30 (by decide)
theorem d227_33 : decode cX12_back 33 = .ok (.aload_n 0, 1) := by decide +kernel
theorem k227_33 {d x : Nat} {l1 : Option PV} {st : List PV} {M : Mem} {Q : Option PV → Mem → Prop} : WP d 227 33 [some (vr x), l1] (st) M Q = WP d 227 34 [some (vr x), l1] (vr x :: st) M Q := w1 mC_227 d227_33 rfl rfl
theorem d227_34 : decode cX12_back 34 = .ok (.getfield 51, 3) := by decide +kernel
theorem k227_34 {d : Nat} {l0 l1 : Option PV} {st : List PV} {M : Mem} {Q : Option PV → Mem → Prop} {r : Nat} (hk : mK M r = 12) : WP d 227 34 [l0, l1] (vr r :: st) M Q = WP d 227 37 [l0, l1] (vr (mR M r 22) :: st) M Q := w_getr mC_227 d227_34 fE_12_51 rfl (by rw [hk]; rfl)
theorem d227_37 : decode cX12_back 37 = .ok (.iload_n 1, 1) := by decide +kernel
theorem k227_37 {d : Nat} {x : Int32} {l0 : Option PV} {st : List PV} {M : Mem} {Q : Option PV → Mem → Prop} : WP d 227 37 [l0, some (vi x)] (st) M Q = WP d 227 38 [l0, some (vi x)] (vi x :: st) M Q := w1 mC_227 d227_37 rfl rfl
theorem d227_38 : decode cX12_back 38 = .ok (.aload_n 0, 1) := by decide +kernel
theorem k227_38 {d x : Nat} {l1 : Option PV} {st : List PV} {M : Mem} {Q : Option PV → Mem → Prop} : WP d 227 38 [some (vr x), l1] (st) M Q = WP d 227 39 [some (vr x), l1] (vr x :: st) M Q := w1 mC_227 d227_38 rfl rfl
theorem d227_39 : decode cX12_back 39 = .ok (.getfield 57, 3) := by decide +kernel
theorem k227_39 {d : Nat} {l0 l1 : Option PV} {st : List PV} {M : Mem} {Q : Option PV → Mem → Prop} {r : Nat} (hk : mK M r = 12) : WP d 227 39 [l0, l1] (vr r :: st) M Q = WP d 227 42 [l0, l1] (vr (mR M r 27) :: st) M Q := w_getr mC_227 d227_39 fE_12_57 rfl (by rw [hk]; rfl)
theorem d227_42 : decode cX12_back 42 = .ok (.iload_n 1, 1) := by decide +kernel
theorem k227_42 {d : Nat} {x : Int32} {l0 : Option PV} {st : List PV} {M : Mem} {Q : Option PV → Mem → Prop} : WP d 227 42 [l0, some (vi x)] (st) M Q = WP d 227 43 [l0, some (vi x)] (vi x :: st) M Q := w1 mC_227 d227_42 rfl rfl
theorem d227_43 : decode cX12_back 43 = .ok (.iaload, 1) := by decide +kernel
theorem k227_43 {d : Nat} {l0 l1 : Option PV} {st : List PV} {M : Mem} {Q : Option PV → Mem → Prop} {r : Nat} {j : Int32} (hk : mK M r = 13) (hj : inb j (mN M r)) (h1 : r ≠ 1) : WP d 227 43 [l0, l1] (vi j :: vr r :: st) M Q = WP d 227 44 [l0, l1] (vi (mI M r (ix j)) :: st) M Q := w_iald mC_227 d227_43 (by decide) hk hj h1
theorem d227_44 : decode cX12_back 44 = .ok (.iastore, 1) := by decide +kernel
theorem k227_44 {d : Nat} {l0 l1 : Option PV} {st : List PV} {M : Mem} {Q : Option PV → Mem → Prop} {r : Nat} {j x : Int32} (hk : mK M r = 13) (hj : inb j (mN M r)) (h1 : r ≠ 1) : WP d 227 44 [l0, l1] (vi x :: vi j :: vr r :: st) M Q = WP d 227 45 [l0, l1] (st) (sI M r (ix j) x) Q := w_iast mC_227 d227_44 hk hj h1
theorem d227_45 : decode cX12_back 45 = .ok (.iinc 1 1, 3) := by decide +kernel
theorem k227_45 {d : Nat} {x : Int32} {l0 : Option PV} {st : List PV} {M : Mem} {Q : Option PV → Mem → Prop} : WP d 227 45 [l0, some (vi x)] (st) M Q = WP d 227 48 [l0, some (vi (x + 1))] (st) M Q := w_iinc mC_227 d227_45 rfl (by decide) rfl
theorem d227_48 : decode cX12_back 48 = .ok (.goto (-20), 3) := by decide +kernel
theorem k227_48 {d : Nat} {l0 l1 : Option PV} {st : List PV} {M : Mem} {Q : Option PV → Mem → Prop} : WP d 227 48 [l0, l1] (st) M Q = WP d 227 28 [l0, l1] (st) M Q := w_goto mC_227 d227_48 (by decide)
theorem d227_51 : decode cX12_back 51 = .ok (.aload_n 0, 1) := by decide +kernel
theorem k227_51 {d x : Nat} {l1 : Option PV} {st : List PV} {M : Mem} {Q : Option PV → Mem → Prop} : WP d 227 51 [some (vr x), l1] (st) M Q = WP d 227 52 [some (vr x), l1] (vr x :: st) M Q := w1 mC_227 d227_51 rfl rfl
theorem d227_52 : decode cX12_back 52 = .ok (.getfield 51, 3) := by decide +kernel
theorem k227_52 {d : Nat} {l0 l1 : Option PV} {st : List PV} {M : Mem} {Q : Option PV → Mem → Prop} {r : Nat} (hk : mK M r = 12) : WP d 227 52 [l0, l1] (vr r :: st) M Q = WP d 227 55 [l0, l1] (vr (mR M r 22) :: st) M Q := w_getr mC_227 d227_52 fE_12_51 rfl (by rw [hk]; rfl)
theorem d227_55 : decode cX12_back 55 = .ok (.iconst 0, 1) := by decide +kernel
theorem k227_55 {d : Nat} {l0 l1 : Option PV} {st : List PV} {M : Mem} {Q : Option PV → Mem → Prop} : WP d 227 55 [l0, l1] (st) M Q = WP d 227 56 [l0, l1] (vi 0 :: st) M Q := w_iconst mC_227 d227_55 (by decide)
theorem d227_56 : decode cX12_back 56 = .ok (.iaload, 1) := by decide +kernel
theorem k227_56 {d : Nat} {l0 l1 : Option PV} {st : List PV} {M : Mem} {Q : Option PV → Mem → Prop} {r : Nat} {j : Int32} (hk : mK M r = 13) (hj : inb j (mN M r)) (h1 : r ≠ 1) : WP d 227 56 [l0, l1] (vi j :: vr r :: st) M Q = WP d 227 57 [l0, l1] (vi (mI M r (ix j)) :: st) M Q := w_iald mC_227 d227_56 (by decide) hk hj h1
theorem d227_57 : decode cX12_back 57 = .ok (.ireturn, 1) := by decide +kernel
theorem k227_57 {d : Nat} {l0 l1 : Option PV} {M : Mem} {Q : Option PV → Mem → Prop} {x : Int32} : WP d 227 57 [l0, l1] ([vi x]) M Q = Q (some (vi x)) M := w_iret mC_227 d227_57 rfl
theorem d228_0 : decode cX12_above 0 = .ok (.iload_n 0, 1) := by decide +kernel
theorem k228_0 {d : Nat} {x : Int32} {st : List PV} {M : Mem} {Q : Option PV → Mem → Prop} : WP d 228 0 [some (vi x)] (st) M Q = WP d 228 1 [some (vi x)] (vi x :: st) M Q := w1 mC_228 d228_0 rfl rfl
theorem d228_1 : decode cX12_above 1 = .ok (.tableswitch 43 3 7 #[35, 37, 39, 43, 41], 35) := by decide +kernel
theorem k228_1c3 {d : Nat} {l0 : Option PV} {st : List PV} {M : Mem} {Q : Option PV → Mem → Prop} : WP d 228 1 [l0] (vi 3 :: st) M Q = WP d 228 36 [l0] (st) M Q := w_sw mC_228 d228_1 (by decide +kernel)
theorem k228_1c4 {d : Nat} {l0 : Option PV} {st : List PV} {M : Mem} {Q : Option PV → Mem → Prop} : WP d 228 1 [l0] (vi 4 :: st) M Q = WP d 228 38 [l0] (st) M Q := w_sw mC_228 d228_1 (by decide +kernel)
theorem k228_1c5 {d : Nat} {l0 : Option PV} {st : List PV} {M : Mem} {Q : Option PV → Mem → Prop} : WP d 228 1 [l0] (vi 5 :: st) M Q = WP d 228 40 [l0] (st) M Q := w_sw mC_228 d228_1 (by decide +kernel)
theorem k228_1c6 {d : Nat} {l0 : Option PV} {st : List PV} {M : Mem} {Q : Option PV → Mem → Prop} : WP d 228 1 [l0] (vi 6 :: st) M Q = WP d 228 44 [l0] (st) M Q := w_sw mC_228 d228_1 (by decide +kernel)
theorem k228_1c7 {d : Nat} {l0 : Option PV} {st : List PV} {M : Mem} {Q : Option PV → Mem → Prop} : WP d 228 1 [l0] (vi 7 :: st) M Q = WP d 228 42 [l0] (st) M Q := w_sw mC_228 d228_1 (by decide +kernel)
theorem k228_1 {d : Nat} {l0 : Option PV} {st : List PV} {M : Mem} {Q : Option PV → Mem → Prop} {x : Int32} (h : x.toInt < 3 ∨ 7 < x.toInt) : WP d 228 1 [l0] (vi x :: st) M Q = WP d 228 44 [l0] (st) M Q := w_swd mC_228 d228_1 (by decide) h
theorem d228_36 : decode cX12_above 36 = .ok (.iconst 2, 1) := by decide +kernel
theorem k228_36 {d : Nat} {l0 : Option PV} {st : List PV} {M : Mem} {Q : Option PV → Mem → Prop} : WP d 228 36 [l0] (st) M Q = WP d 228 37 [l0] (vi 2 :: st) M Q := w_iconst mC_228 d228_36 (by decide)
theorem d228_37 : decode cX12_above 37 = .ok (.ireturn, 1) := by decide +kernel
theorem k228_37 {d : Nat} {l0 : Option PV} {M : Mem} {Q : Option PV → Mem → Prop} {x : Int32} : WP d 228 37 [l0] ([vi x]) M Q = Q (some (vi x)) M := w_iret mC_228 d228_37 rfl
theorem d228_38 : decode cX12_above 38 = .ok (.iconst 1, 1) := by decide +kernel
theorem k228_38 {d : Nat} {l0 : Option PV} {st : List PV} {M : Mem} {Q : Option PV → Mem → Prop} : WP d 228 38 [l0] (st) M Q = WP d 228 39 [l0] (vi 1 :: st) M Q := w_iconst mC_228 d228_38 (by decide)
theorem d228_39 : decode cX12_above 39 = .ok (.ireturn, 1) := by decide +kernel
theorem k228_39 {d : Nat} {l0 : Option PV} {M : Mem} {Q : Option PV → Mem → Prop} {x : Int32} : WP d 228 39 [l0] ([vi x]) M Q = Q (some (vi x)) M := w_iret mC_228 d228_39 rfl
theorem d228_40 : decode cX12_above 40 = .ok (.iconst 3, 1) := by decide +kernel
theorem k228_40 {d : Nat} {l0 : Option PV} {st : List PV} {M : Mem} {Q : Option PV → Mem → Prop} : WP d 228 40 [l0] (st) M Q = WP d 228 41 [l0] (vi 3 :: st) M Q := w_iconst mC_228 d228_40 (by decide)
theorem d228_41 : decode cX12_above 41 = .ok (.ireturn, 1) := by decide +kernel
theorem k228_41 {d : Nat} {l0 : Option PV} {M : Mem} {Q : Option PV → Mem → Prop} {x : Int32} : WP d 228 41 [l0] ([vi x]) M Q = Q (some (vi x)) M := w_iret mC_228 d228_41 rfl
theorem d228_42 : decode cX12_above 42 = .ok (.iconst 4, 1) := by decide +kernel
theorem k228_42 {d : Nat} {l0 : Option PV} {st : List PV} {M : Mem} {Q : Option PV → Mem → Prop} : WP d 228 42 [l0] (st) M Q = WP d 228 43 [l0] (vi 4 :: st) M Q := w_iconst mC_228 d228_42 (by decide)
theorem d228_43 : decode cX12_above 43 = .ok (.ireturn, 1) := by decide +kernel
theorem k228_43 {d : Nat} {l0 : Option PV} {M : Mem} {Q : Option PV → Mem → Prop} {x : Int32} : WP d 228 43 [l0] ([vi x]) M Q = Q (some (vi x)) M := w_iret mC_228 d228_43 rfl
theorem d228_44 : decode cX12_above 44 = .ok (.iconst 0, 1) := by decide +kernel
theorem k228_44 {d : Nat} {l0 : Option PV} {st : List PV} {M : Mem} {Q : Option PV → Mem → Prop} : WP d 228 44 [l0] (st) M Q = WP d 228 45 [l0] (vi 0 :: st) M Q := w_iconst mC_228 d228_44 (by decide)
theorem d228_45 : decode cX12_above 45 = .ok (.ireturn, 1) := by decide +kernel
theorem k228_45 {d : Nat} {l0 : Option PV} {M : Mem} {Q : Option PV → Mem → Prop} {x : Int32} : WP d 228 45 [l0] ([vi x]) M Q = Q (some (vi x)) M := w_iret mC_228 d228_45 rfl
theorem d229_0 : decode cX12_ran 0 = .ok (.aload_n 0, 1) := by decide +kernel
theorem k229_0 {d x : Nat} {l1 : Option PV} {st : List PV} {M : Mem} {Q : Option PV → Mem → Prop} : WP d 229 0 [some (vr x), l1] (st) M Q = WP d 229 1 [some (vr x), l1] (vr x :: st) M Q := w1 mC_229 d229_0 rfl rfl
theorem d229_1 : decode cX12_ran 1 = .ok (.getfield 341, 3) := by decide +kernel
theorem k229_1 {d : Nat} {l0 l1 : Option PV} {st : List PV} {M : Mem} {Q : Option PV → Mem → Prop} {r : Nat} (hk : mK M r = 12) : WP d 229 1 [l0, l1] (vr r :: st) M Q = WP d 229 4 [l0, l1] (vi (mI M r 33) :: st) M Q := w_get mC_229 d229_1 fE_12_341 rfl (by rw [hk]; rfl)
theorem d229_4 : decode cX12_ran 4 = .ok (.bipush 24, 2) := by decide +kernel
theorem k229_4 {d : Nat} {l0 l1 : Option PV} {st : List PV} {M : Mem} {Q : Option PV → Mem → Prop} : WP d 229 4 [l0, l1] (st) M Q = WP d 229 6 [l0, l1] (vi 24 :: st) M Q := w_bipush mC_229 d229_4 (by decide)
theorem d229_6 : decode cX12_ran 6 = .ok (.if_icmp .ge 13, 3) := by decide +kernel
theorem k229_6 {d : Nat} {l0 l1 : Option PV} {st : List PV} {M : Mem} {Q : Option PV → Mem → Prop} {x y : Int32} : WP d 229 6 [l0, l1] (vi y :: vi x :: st) M Q = (if y ≤ x then WP d 229 19 [l0, l1] (st) M Q else WP d 229 9 [l0, l1] (st) M Q) := w_ic_ge mC_229 d229_6 (by decide)
theorem d229_9 : decode cX12_ran 9 = .ok (.aload_n 0, 1) := by decide +kernel
theorem k229_9 {d x : Nat} {l1 : Option PV} {st : List PV} {M : Mem} {Q : Option PV → Mem → Prop} : WP d 229 9 [some (vr x), l1] (st) M Q = WP d 229 10 [some (vr x), l1] (vr x :: st) M Q := w1 mC_229 d229_9 rfl rfl
theorem d229_10 : decode cX12_ran 10 = .ok (.getfield 66, 3) := by decide +kernel
theorem k229_10 {d : Nat} {l0 l1 : Option PV} {st : List PV} {M : Mem} {Q : Option PV → Mem → Prop} {r : Nat} (hk : mK M r = 12) : WP d 229 10 [l0, l1] (vr r :: st) M Q = WP d 229 13 [l0, l1] (vr (mR M r 34) :: st) M Q := w_getr mC_229 d229_10 fE_12_66 rfl (by rw [hk]; rfl)
theorem d229_13 : decode cX12_ran 13 = .ok (.aload_n 0, 1) := by decide +kernel
theorem k229_13 {d x : Nat} {l1 : Option PV} {st : List PV} {M : Mem} {Q : Option PV → Mem → Prop} : WP d 229 13 [some (vr x), l1] (st) M Q = WP d 229 14 [some (vr x), l1] (vr x :: st) M Q := w1 mC_229 d229_13 rfl rfl
theorem d229_14 : decode cX12_ran 14 = .ok (.getfield 341, 3) := by decide +kernel
theorem k229_14 {d : Nat} {l0 l1 : Option PV} {st : List PV} {M : Mem} {Q : Option PV → Mem → Prop} {r : Nat} (hk : mK M r = 12) : WP d 229 14 [l0, l1] (vr r :: st) M Q = WP d 229 17 [l0, l1] (vi (mI M r 33) :: st) M Q := w_get mC_229 d229_14 fE_12_341 rfl (by rw [hk]; rfl)
theorem d229_17 : decode cX12_ran 17 = .ok (.iload_n 1, 1) := by decide +kernel
theorem k229_17 {d : Nat} {x : Int32} {l0 : Option PV} {st : List PV} {M : Mem} {Q : Option PV → Mem → Prop} : WP d 229 17 [l0, some (vi x)] (st) M Q = WP d 229 18 [l0, some (vi x)] (vi x :: st) M Q := w1 mC_229 d229_17 rfl rfl
theorem d229_18 : decode cX12_ran 18 = .ok (.iastore, 1) := by decide +kernel
theorem k229_18 {d : Nat} {l0 l1 : Option PV} {st : List PV} {M : Mem} {Q : Option PV → Mem → Prop} {r : Nat} {j x : Int32} (hk : mK M r = 13) (hj : inb j (mN M r)) (h1 : r ≠ 1) : WP d 229 18 [l0, l1] (vi x :: vi j :: vr r :: st) M Q = WP d 229 19 [l0, l1] (st) (sI M r (ix j) x) Q := w_iast mC_229 d229_18 hk hj h1
theorem d229_19 : decode cX12_ran 19 = .ok (.aload_n 0, 1) := by decide +kernel
theorem k229_19 {d x : Nat} {l1 : Option PV} {st : List PV} {M : Mem} {Q : Option PV → Mem → Prop} : WP d 229 19 [some (vr x), l1] (st) M Q = WP d 229 20 [some (vr x), l1] (vr x :: st) M Q := w1 mC_229 d229_19 rfl rfl
theorem d229_20 : decode cX12_ran 20 = .ok (.dup, 1) := by decide +kernel
theorem k229_20 {d : Nat} {l0 l1 : Option PV} {st : List PV} {M : Mem} {Q : Option PV → Mem → Prop} {x : Nat} : WP d 229 20 [l0, l1] (vr x :: st) M Q = WP d 229 21 [l0, l1] (vr x :: vr x :: st) M Q := w1 mC_229 d229_20 rfl rfl
theorem k229_20i {d : Nat} {l0 l1 : Option PV} {st : List PV} {M : Mem} {Q : Option PV → Mem → Prop} {x : Int32} : WP d 229 20 [l0, l1] (vi x :: st) M Q = WP d 229 21 [l0, l1] (vi x :: vi x :: st) M Q := w1 mC_229 d229_20 rfl rfl
theorem d229_21 : decode cX12_ran 21 = .ok (.getfield 341, 3) := by decide +kernel
theorem k229_21 {d : Nat} {l0 l1 : Option PV} {st : List PV} {M : Mem} {Q : Option PV → Mem → Prop} {r : Nat} (hk : mK M r = 12) : WP d 229 21 [l0, l1] (vr r :: st) M Q = WP d 229 24 [l0, l1] (vi (mI M r 33) :: st) M Q := w_get mC_229 d229_21 fE_12_341 rfl (by rw [hk]; rfl)
theorem d229_24 : decode cX12_ran 24 = .ok (.iconst 1, 1) := by decide +kernel
theorem k229_24 {d : Nat} {l0 l1 : Option PV} {st : List PV} {M : Mem} {Q : Option PV → Mem → Prop} : WP d 229 24 [l0, l1] (st) M Q = WP d 229 25 [l0, l1] (vi 1 :: st) M Q := w_iconst mC_229 d229_24 (by decide)
theorem d229_25 : decode cX12_ran 25 = .ok (.iadd, 1) := by decide +kernel
theorem k229_25 {d : Nat} {l0 l1 : Option PV} {st : List PV} {M : Mem} {Q : Option PV → Mem → Prop} {x y : Int32} : WP d 229 25 [l0, l1] (vi y :: vi x :: st) M Q = WP d 229 26 [l0, l1] (vi (x + y) :: st) M Q := w1 mC_229 d229_25 rfl rfl
theorem d229_26 : decode cX12_ran 26 = .ok (.putfield 341, 3) := by decide +kernel
theorem k229_26 {d : Nat} {l0 l1 : Option PV} {st : List PV} {M : Mem} {Q : Option PV → Mem → Prop} {r : Nat} {x : Int32} (hk : mK M r = 12) : WP d 229 26 [l0, l1] (vi x :: vr r :: st) M Q = WP d 229 29 [l0, l1] (st) (sI M r 33 x) Q := w_put mC_229 d229_26 fE_12_341 (by decide +kernel) (by rw [hk]; rfl)
theorem d229_29 : decode cX12_ran 29 = .ok (.return_, 1) := by decide +kernel
theorem k229_29 {d : Nat} {l0 l1 : Option PV} {M : Mem} {Q : Option PV → Mem → Prop} : WP d 229 29 [l0, l1] ([]) M Q = Q none M := w_vret mC_229 d229_29 rfl
theorem d230_0 : decode cX12_lendsBy 0 = .ok (.iload_n 2, 1) := by decide +kernel
theorem k230_0 {d : Nat} {x : Int32} {l0 l1 l3 : Option PV} {st : List PV} {M : Mem} {Q : Option PV → Mem → Prop} : WP d 230 0 [l0, l1, some (vi x), l3] (st) M Q = WP d 230 1 [l0, l1, some (vi x), l3] (vi x :: st) M Q := w1 mC_230 d230_0 rfl rfl
theorem d230_1 : decode cX12_lendsBy 1 = .ok (.lookupswitch 76 #[(0, 35), (1, 44), (6, 60)], 35) := by decide +kernel
theorem k230_1c0 {d : Nat} {l0 l1 l2 l3 : Option PV} {st : List PV} {M : Mem} {Q : Option PV → Mem → Prop} : WP d 230 1 [l0, l1, l2, l3] (vi 0 :: st) M Q = WP d 230 36 [l0, l1, l2, l3] (st) M Q := w_lsw mC_230 d230_1 (by decide +kernel)
theorem k230_1c1 {d : Nat} {l0 l1 l2 l3 : Option PV} {st : List PV} {M : Mem} {Q : Option PV → Mem → Prop} : WP d 230 1 [l0, l1, l2, l3] (vi 1 :: st) M Q = WP d 230 45 [l0, l1, l2, l3] (st) M Q := w_lsw mC_230 d230_1 (by decide +kernel)
theorem k230_1c6 {d : Nat} {l0 l1 l2 l3 : Option PV} {st : List PV} {M : Mem} {Q : Option PV → Mem → Prop} : WP d 230 1 [l0, l1, l2, l3] (vi 6 :: st) M Q = WP d 230 61 [l0, l1, l2, l3] (st) M Q := w_lsw mC_230 d230_1 (by decide +kernel)
theorem k230_1 {d : Nat} {l0 l1 l2 l3 : Option PV} {st : List PV} {M : Mem} {Q : Option PV → Mem → Prop} {x : Int32} (h0 : x ≠ 0) (h1 : x ≠ 1) (h2 : x ≠ 6) : WP d 230 1 [l0, l1, l2, l3] (vi x :: st) M Q = WP d 230 77 [l0, l1, l2, l3] (st) M Q := w_lsw mC_230 d230_1 (by unfold lswt; rw [if_pos (by decide)]; rw [lv_osw h0 (by decide)]; rw [lv_osw h1 (by decide)]; rw [lv_osw h2 (by decide)]; exact (by decide : tgt 1 76 = some 77))
theorem d230_36 : decode cX12_lendsBy 36 = .ok (.aload_n 0, 1) := by decide +kernel
theorem k230_36 {d x : Nat} {l1 l2 l3 : Option PV} {st : List PV} {M : Mem} {Q : Option PV → Mem → Prop} : WP d 230 36 [some (vr x), l1, l2, l3] (st) M Q = WP d 230 37 [some (vr x), l1, l2, l3] (vr x :: st) M Q := w1 mC_230 d230_36 rfl rfl
theorem d230_37 : decode cX12_lendsBy 37 = .ok (.iconst 1, 1) := by decide +kernel
theorem k230_37 {d : Nat} {l0 l1 l2 l3 : Option PV} {st : List PV} {M : Mem} {Q : Option PV → Mem → Prop} : WP d 230 37 [l0, l1, l2, l3] (st) M Q = WP d 230 38 [l0, l1, l2, l3] (vi 1 :: st) M Q := w_iconst mC_230 d230_37 (by decide)
theorem d230_38 : decode cX12_lendsBy 38 = .ok (.invokevirtual 344, 3) := by decide +kernel
theorem k230_38 {d : Nat} {l0 l1 l2 l3 : Option PV} {st : List PV} {M : Mem} {Q : Option PV → Mem → Prop} {a0 : Int32} {r : Nat} (hl : szL st ≤ 8) (hk : mK M r = 12) : WP (d + 1) 230 38 [l0, l1, l2, l3] (vi a0 :: vr r :: st) M Q = WP d 229 0 [some (vr r), some (vi a0)] [] M (fun v M' => WP (d + 1) 230 41 [l0, l1, l2, l3] (psh v st) M' Q) := w_callV mC_230 d230_38 (ci := 12) rfl rfl rfl (Nat.le_of_ble_eq_true rfl) (by decide) rfl hl hk
theorem d230_41 : decode cX12_lendsBy 41 = .ok (.iload_n 3, 1) := by decide +kernel
theorem k230_41 {d : Nat} {x : Int32} {l0 l1 l2 : Option PV} {st : List PV} {M : Mem} {Q : Option PV → Mem → Prop} : WP d 230 41 [l0, l1, l2, some (vi x)] (st) M Q = WP d 230 42 [l0, l1, l2, some (vi x)] (vi x :: st) M Q := w1 mC_230 d230_41 rfl rfl
theorem d230_42 : decode cX12_lendsBy 42 = .ok (.iload_n 1, 1) := by decide +kernel
theorem k230_42 {d : Nat} {x : Int32} {l0 l2 l3 : Option PV} {st : List PV} {M : Mem} {Q : Option PV → Mem → Prop} : WP d 230 42 [l0, some (vi x), l2, l3] (st) M Q = WP d 230 43 [l0, some (vi x), l2, l3] (vi x :: st) M Q := w1 mC_230 d230_42 rfl rfl
theorem d230_43 : decode cX12_lendsBy 43 = .ok (.iadd, 1) := by decide +kernel
theorem k230_43 {d : Nat} {l0 l1 l2 l3 : Option PV} {st : List PV} {M : Mem} {Q : Option PV → Mem → Prop} {x y : Int32} : WP d 230 43 [l0, l1, l2, l3] (vi y :: vi x :: st) M Q = WP d 230 44 [l0, l1, l2, l3] (vi (x + y) :: st) M Q := w1 mC_230 d230_43 rfl rfl
theorem d230_44 : decode cX12_lendsBy 44 = .ok (.ireturn, 1) := by decide +kernel
theorem k230_44 {d : Nat} {l0 l1 l2 l3 : Option PV} {M : Mem} {Q : Option PV → Mem → Prop} {x : Int32} : WP d 230 44 [l0, l1, l2, l3] ([vi x]) M Q = Q (some (vi x)) M := w_iret mC_230 d230_44 rfl
theorem d230_45 : decode cX12_lendsBy 45 = .ok (.aload_n 0, 1) := by decide +kernel
theorem k230_45 {d x : Nat} {l1 l2 l3 : Option PV} {st : List PV} {M : Mem} {Q : Option PV → Mem → Prop} : WP d 230 45 [some (vr x), l1, l2, l3] (st) M Q = WP d 230 46 [some (vr x), l1, l2, l3] (vr x :: st) M Q := w1 mC_230 d230_45 rfl rfl
theorem d230_46 : decode cX12_lendsBy 46 = .ok (.bipush 20, 2) := by decide +kernel
theorem k230_46 {d : Nat} {l0 l1 l2 l3 : Option PV} {st : List PV} {M : Mem} {Q : Option PV → Mem → Prop} : WP d 230 46 [l0, l1, l2, l3] (st) M Q = WP d 230 48 [l0, l1, l2, l3] (vi 20 :: st) M Q := w_bipush mC_230 d230_46 (by decide)
theorem d230_48 : decode cX12_lendsBy 48 = .ok (.invokevirtual 344, 3) := by decide +kernel
theorem k230_48 {d : Nat} {l0 l1 l2 l3 : Option PV} {st : List PV} {M : Mem} {Q : Option PV → Mem → Prop} {a0 : Int32} {r : Nat} (hl : szL st ≤ 8) (hk : mK M r = 12) : WP (d + 1) 230 48 [l0, l1, l2, l3] (vi a0 :: vr r :: st) M Q = WP d 229 0 [some (vr r), some (vi a0)] [] M (fun v M' => WP (d + 1) 230 51 [l0, l1, l2, l3] (psh v st) M' Q) := w_callV mC_230 d230_48 (ci := 12) rfl rfl rfl (Nat.le_of_ble_eq_true rfl) (by decide) rfl hl hk
theorem d230_51 : decode cX12_lendsBy 51 = .ok (.aload_n 0, 1) := by decide +kernel
theorem k230_51 {d x : Nat} {l1 l2 l3 : Option PV} {st : List PV} {M : Mem} {Q : Option PV → Mem → Prop} : WP d 230 51 [some (vr x), l1, l2, l3] (st) M Q = WP d 230 52 [some (vr x), l1, l2, l3] (vr x :: st) M Q := w1 mC_230 d230_51 rfl rfl
theorem d230_52 : decode cX12_lendsBy 52 = .ok (.iload_n 1, 1) := by decide +kernel
theorem k230_52 {d : Nat} {x : Int32} {l0 l2 l3 : Option PV} {st : List PV} {M : Mem} {Q : Option PV → Mem → Prop} : WP d 230 52 [l0, some (vi x), l2, l3] (st) M Q = WP d 230 53 [l0, some (vi x), l2, l3] (vi x :: st) M Q := w1 mC_230 d230_52 rfl rfl
theorem d230_53 : decode cX12_lendsBy 53 = .ok (.iconst 0, 1) := by decide +kernel
theorem k230_53 {d : Nat} {l0 l1 l2 l3 : Option PV} {st : List PV} {M : Mem} {Q : Option PV → Mem → Prop} : WP d 230 53 [l0, l1, l2, l3] (st) M Q = WP d 230 54 [l0, l1, l2, l3] (vi 0 :: st) M Q := w_iconst mC_230 d230_53 (by decide)
theorem d230_54 : decode cX12_lendsBy 54 = .ok (.iload_n 3, 1) := by decide +kernel
theorem k230_54 {d : Nat} {x : Int32} {l0 l1 l2 : Option PV} {st : List PV} {M : Mem} {Q : Option PV → Mem → Prop} : WP d 230 54 [l0, l1, l2, some (vi x)] (st) M Q = WP d 230 55 [l0, l1, l2, some (vi x)] (vi x :: st) M Q := w1 mC_230 d230_54 rfl rfl
theorem d230_55 : decode cX12_lendsBy 55 = .ok (.invokevirtual 347, 3) := by decide +kernel
theorem k230_55 {d : Nat} {l0 l1 l2 l3 : Option PV} {st : List PV} {M : Mem} {Q : Option PV → Mem → Prop} {a0 a1 a2 : Int32} {r : Nat} (hl : szL st ≤ 8) (hk : mK M r = 12) : WP (d + 1) 230 55 [l0, l1, l2, l3] (vi a2 :: vi a1 :: vi a0 :: vr r :: st) M Q = WP d 230 0 [some (vr r), some (vi a0), some (vi a1), some (vi a2)] [] M (fun v M' => WP (d + 1) 230 58 [l0, l1, l2, l3] (psh v st) M' Q) := w_callV mC_230 d230_55 (ci := 12) rfl rfl rfl (Nat.le_of_ble_eq_true rfl) (by decide) rfl hl hk
theorem d230_58 : decode cX12_lendsBy 58 = .ok (.iconst 3, 1) := by decide +kernel
theorem k230_58 {d : Nat} {l0 l1 l2 l3 : Option PV} {st : List PV} {M : Mem} {Q : Option PV → Mem → Prop} : WP d 230 58 [l0, l1, l2, l3] (st) M Q = WP d 230 59 [l0, l1, l2, l3] (vi 3 :: st) M Q := w_iconst mC_230 d230_58 (by decide)
theorem d230_59 : decode cX12_lendsBy 59 = .ok (.iadd, 1) := by decide +kernel
theorem k230_59 {d : Nat} {l0 l1 l2 l3 : Option PV} {st : List PV} {M : Mem} {Q : Option PV → Mem → Prop} {x y : Int32} : WP d 230 59 [l0, l1, l2, l3] (vi y :: vi x :: st) M Q = WP d 230 60 [l0, l1, l2, l3] (vi (x + y) :: st) M Q := w1 mC_230 d230_59 rfl rfl
theorem d230_60 : decode cX12_lendsBy 60 = .ok (.ireturn, 1) := by decide +kernel
theorem k230_60 {d : Nat} {l0 l1 l2 l3 : Option PV} {M : Mem} {Q : Option PV → Mem → Prop} {x : Int32} : WP d 230 60 [l0, l1, l2, l3] ([vi x]) M Q = Q (some (vi x)) M := w_iret mC_230 d230_60 rfl
theorem d230_61 : decode cX12_lendsBy 61 = .ok (.aload_n 0, 1) := by decide +kernel
theorem k230_61 {d x : Nat} {l1 l2 l3 : Option PV} {st : List PV} {M : Mem} {Q : Option PV → Mem → Prop} : WP d 230 61 [some (vr x), l1, l2, l3] (st) M Q = WP d 230 62 [some (vr x), l1, l2, l3] (vr x :: st) M Q := w1 mC_230 d230_61 rfl rfl
theorem d230_62 : decode cX12_lendsBy 62 = .ok (.bipush 70, 2) := by decide +kernel
theorem k230_62 {d : Nat} {l0 l1 l2 l3 : Option PV} {st : List PV} {M : Mem} {Q : Option PV → Mem → Prop} : WP d 230 62 [l0, l1, l2, l3] (st) M Q = WP d 230 64 [l0, l1, l2, l3] (vi 70 :: st) M Q := w_bipush mC_230 d230_62 (by decide)
theorem d230_64 : decode cX12_lendsBy 64 = .ok (.invokevirtual 344, 3) := by decide +kernel
theorem k230_64 {d : Nat} {l0 l1 l2 l3 : Option PV} {st : List PV} {M : Mem} {Q : Option PV → Mem → Prop} {a0 : Int32} {r : Nat} (hl : szL st ≤ 8) (hk : mK M r = 12) : WP (d + 1) 230 64 [l0, l1, l2, l3] (vi a0 :: vr r :: st) M Q = WP d 229 0 [some (vr r), some (vi a0)] [] M (fun v M' => WP (d + 1) 230 67 [l0, l1, l2, l3] (psh v st) M' Q) := w_callV mC_230 d230_64 (ci := 12) rfl rfl rfl (Nat.le_of_ble_eq_true rfl) (by decide) rfl hl hk
theorem d230_67 : decode cX12_lendsBy 67 = .ok (.aload_n 0, 1) := by decide +kernel
theorem k230_67 {d x : Nat} {l1 l2 l3 : Option PV} {st : List PV} {M : Mem} {Q : Option PV → Mem → Prop} : WP d 230 67 [some (vr x), l1, l2, l3] (st) M Q = WP d 230 68 [some (vr x), l1, l2, l3] (vr x :: st) M Q := w1 mC_230 d230_67 rfl rfl
theorem d230_68 : decode cX12_lendsBy 68 = .ok (.iload_n 1, 1) := by decide +kernel
theorem k230_68 {d : Nat} {x : Int32} {l0 l2 l3 : Option PV} {st : List PV} {M : Mem} {Q : Option PV → Mem → Prop} : WP d 230 68 [l0, some (vi x), l2, l3] (st) M Q = WP d 230 69 [l0, some (vi x), l2, l3] (vi x :: st) M Q := w1 mC_230 d230_68 rfl rfl
theorem d230_69 : decode cX12_lendsBy 69 = .ok (.iconst 0, 1) := by decide +kernel
theorem k230_69 {d : Nat} {l0 l1 l2 l3 : Option PV} {st : List PV} {M : Mem} {Q : Option PV → Mem → Prop} : WP d 230 69 [l0, l1, l2, l3] (st) M Q = WP d 230 70 [l0, l1, l2, l3] (vi 0 :: st) M Q := w_iconst mC_230 d230_69 (by decide)
theorem d230_70 : decode cX12_lendsBy 70 = .ok (.iload_n 3, 1) := by decide +kernel
theorem k230_70 {d : Nat} {x : Int32} {l0 l1 l2 : Option PV} {st : List PV} {M : Mem} {Q : Option PV → Mem → Prop} : WP d 230 70 [l0, l1, l2, some (vi x)] (st) M Q = WP d 230 71 [l0, l1, l2, some (vi x)] (vi x :: st) M Q := w1 mC_230 d230_70 rfl rfl
theorem d230_71 : decode cX12_lendsBy 71 = .ok (.invokevirtual 347, 3) := by decide +kernel
theorem k230_71 {d : Nat} {l0 l1 l2 l3 : Option PV} {st : List PV} {M : Mem} {Q : Option PV → Mem → Prop} {a0 a1 a2 : Int32} {r : Nat} (hl : szL st ≤ 8) (hk : mK M r = 12) : WP (d + 1) 230 71 [l0, l1, l2, l3] (vi a2 :: vi a1 :: vi a0 :: vr r :: st) M Q = WP d 230 0 [some (vr r), some (vi a0), some (vi a1), some (vi a2)] [] M (fun v M' => WP (d + 1) 230 74 [l0, l1, l2, l3] (psh v st) M' Q) := w_callV mC_230 d230_71 (ci := 12) rfl rfl rfl (Nat.le_of_ble_eq_true rfl) (by decide) rfl hl hk
theorem d230_74 : decode cX12_lendsBy 74 = .ok (.iconst 2, 1) := by decide +kernel
theorem k230_74 {d : Nat} {l0 l1 l2 l3 : Option PV} {st : List PV} {M : Mem} {Q : Option PV → Mem → Prop} : WP d 230 74 [l0, l1, l2, l3] (st) M Q = WP d 230 75 [l0, l1, l2, l3] (vi 2 :: st) M Q := w_iconst mC_230 d230_74 (by decide)
theorem d230_75 : decode cX12_lendsBy 75 = .ok (.imul, 1) := by decide +kernel
theorem k230_75 {d : Nat} {l0 l1 l2 l3 : Option PV} {st : List PV} {M : Mem} {Q : Option PV → Mem → Prop} {x y : Int32} : WP d 230 75 [l0, l1, l2, l3] (vi y :: vi x :: st) M Q = WP d 230 76 [l0, l1, l2, l3] (vi (x * y) :: st) M Q := w1 mC_230 d230_75 rfl rfl
theorem d230_76 : decode cX12_lendsBy 76 = .ok (.ireturn, 1) := by decide +kernel
theorem k230_76 {d : Nat} {l0 l1 l2 l3 : Option PV} {M : Mem} {Q : Option PV → Mem → Prop} {x : Int32} : WP d 230 76 [l0, l1, l2, l3] ([vi x]) M Q = Q (some (vi x)) M := w_iret mC_230 d230_76 rfl
theorem d230_77 : decode cX12_lendsBy 77 = .ok (.aload_n 0, 1) := by decide +kernel
theorem k230_77 {d x : Nat} {l1 l2 l3 : Option PV} {st : List PV} {M : Mem} {Q : Option PV → Mem → Prop} : WP d 230 77 [some (vr x), l1, l2, l3] (st) M Q = WP d 230 78 [some (vr x), l1, l2, l3] (vr x :: st) M Q := w1 mC_230 d230_77 rfl rfl
theorem d230_78 : decode cX12_lendsBy 78 = .ok (.iload_n 1, 1) := by decide +kernel
theorem k230_78 {d : Nat} {x : Int32} {l0 l2 l3 : Option PV} {st : List PV} {M : Mem} {Q : Option PV → Mem → Prop} : WP d 230 78 [l0, some (vi x), l2, l3] (st) M Q = WP d 230 79 [l0, some (vi x), l2, l3] (vi x :: st) M Q := w1 mC_230 d230_78 rfl rfl
theorem d230_79 : decode cX12_lendsBy 79 = .ok (.iload_n 2, 1) := by decide +kernel
theorem k230_79 {d : Nat} {x : Int32} {l0 l1 l3 : Option PV} {st : List PV} {M : Mem} {Q : Option PV → Mem → Prop} : WP d 230 79 [l0, l1, some (vi x), l3] (st) M Q = WP d 230 80 [l0, l1, some (vi x), l3] (vi x :: st) M Q := w1 mC_230 d230_79 rfl rfl
theorem d230_80 : decode cX12_lendsBy 80 = .ok (.invokestatic 350, 3) := by decide +kernel
theorem k230_80 {d : Nat} {l0 l1 l2 l3 : Option PV} {st : List PV} {M : Mem} {Q : Option PV → Mem → Prop} {a0 : Int32} (hl : szL st ≤ 8) : WP (d + 1) 230 80 [l0, l1, l2, l3] (vi a0 :: st) M Q = WP d 228 0 [some (vi a0)] [] M (fun v M' => WP (d + 1) 230 83 [l0, l1, l2, l3] (psh v st) M' Q) := w_callS mC_230 d230_80 rfl rfl (Nat.le_of_ble_eq_true rfl) (by decide) rfl hl
theorem d230_83 : decode cX12_lendsBy 83 = .ok (.iload_n 3, 1) := by decide +kernel
theorem k230_83 {d : Nat} {x : Int32} {l0 l1 l2 : Option PV} {st : List PV} {M : Mem} {Q : Option PV → Mem → Prop} : WP d 230 83 [l0, l1, l2, some (vi x)] (st) M Q = WP d 230 84 [l0, l1, l2, some (vi x)] (vi x :: st) M Q := w1 mC_230 d230_83 rfl rfl
theorem d230_84 : decode cX12_lendsBy 84 = .ok (.invokevirtual 347, 3) := by decide +kernel
theorem k230_84 {d : Nat} {l0 l1 l2 l3 : Option PV} {st : List PV} {M : Mem} {Q : Option PV → Mem → Prop} {a0 a1 a2 : Int32} {r : Nat} (hl : szL st ≤ 8) (hk : mK M r = 12) : WP (d + 1) 230 84 [l0, l1, l2, l3] (vi a2 :: vi a1 :: vi a0 :: vr r :: st) M Q = WP d 230 0 [some (vr r), some (vi a0), some (vi a1), some (vi a2)] [] M (fun v M' => WP (d + 1) 230 87 [l0, l1, l2, l3] (psh v st) M' Q) := w_callV mC_230 d230_84 (ci := 12) rfl rfl rfl (Nat.le_of_ble_eq_true rfl) (by decide) rfl hl hk
theorem d230_87 : decode cX12_lendsBy 87 = .ok (.ireturn, 1) := by decide +kernel
theorem k230_87 {d : Nat} {l0 l1 l2 l3 : Option PV} {M : Mem} {Q : Option PV → Mem → Prop} {x : Int32} : WP d 230 87 [l0, l1, l2, l3] ([vi x]) M Q = Q (some (vi x)) M := w_iret mC_230 d230_87 rfl
theorem d231_0 : decode cX12_singsBy 0 = .ok (.iload_n 2, 1) := by decide +kernel
theorem k231_0 {d : Nat} {x : Int32} {l0 l1 l3 l4 : Option PV} {st : List PV} {M : Mem} {Q : Option PV → Mem → Prop} : WP d 231 0 [l0, l1, some (vi x), l3, l4] (st) M Q = WP d 231 1 [l0, l1, some (vi x), l3, l4] (vi x :: st) M Q := w1 mC_231 d231_0 rfl rfl
theorem d231_1 : decode cX12_singsBy 1 = .ok (.tableswitch 130 0 7 #[47, 130, 68, 83, 130, 130, 130, 99], 47) := by decide +kernel
theorem k231_1c0 {d : Nat} {l0 l1 l2 l3 l4 : Option PV} {st : List PV} {M : Mem} {Q : Option PV → Mem → Prop} : WP d 231 1 [l0, l1, l2, l3, l4] (vi 0 :: st) M Q = WP d 231 48 [l0, l1, l2, l3, l4] (st) M Q := w_sw mC_231 d231_1 (by decide +kernel)
theorem k231_1c1 {d : Nat} {l0 l1 l2 l3 l4 : Option PV} {st : List PV} {M : Mem} {Q : Option PV → Mem → Prop} : WP d 231 1 [l0, l1, l2, l3, l4] (vi 1 :: st) M Q = WP d 231 131 [l0, l1, l2, l3, l4] (st) M Q := w_sw mC_231 d231_1 (by decide +kernel)
theorem k231_1c2 {d : Nat} {l0 l1 l2 l3 l4 : Option PV} {st : List PV} {M : Mem} {Q : Option PV → Mem → Prop} : WP d 231 1 [l0, l1, l2, l3, l4] (vi 2 :: st) M Q = WP d 231 69 [l0, l1, l2, l3, l4] (st) M Q := w_sw mC_231 d231_1 (by decide +kernel)
theorem k231_1c3 {d : Nat} {l0 l1 l2 l3 l4 : Option PV} {st : List PV} {M : Mem} {Q : Option PV → Mem → Prop} : WP d 231 1 [l0, l1, l2, l3, l4] (vi 3 :: st) M Q = WP d 231 84 [l0, l1, l2, l3, l4] (st) M Q := w_sw mC_231 d231_1 (by decide +kernel)
theorem k231_1c4 {d : Nat} {l0 l1 l2 l3 l4 : Option PV} {st : List PV} {M : Mem} {Q : Option PV → Mem → Prop} : WP d 231 1 [l0, l1, l2, l3, l4] (vi 4 :: st) M Q = WP d 231 131 [l0, l1, l2, l3, l4] (st) M Q := w_sw mC_231 d231_1 (by decide +kernel)
theorem k231_1c5 {d : Nat} {l0 l1 l2 l3 l4 : Option PV} {st : List PV} {M : Mem} {Q : Option PV → Mem → Prop} : WP d 231 1 [l0, l1, l2, l3, l4] (vi 5 :: st) M Q = WP d 231 131 [l0, l1, l2, l3, l4] (st) M Q := w_sw mC_231 d231_1 (by decide +kernel)
theorem k231_1c6 {d : Nat} {l0 l1 l2 l3 l4 : Option PV} {st : List PV} {M : Mem} {Q : Option PV → Mem → Prop} : WP d 231 1 [l0, l1, l2, l3, l4] (vi 6 :: st) M Q = WP d 231 131 [l0, l1, l2, l3, l4] (st) M Q := w_sw mC_231 d231_1 (by decide +kernel)
theorem k231_1c7 {d : Nat} {l0 l1 l2 l3 l4 : Option PV} {st : List PV} {M : Mem} {Q : Option PV → Mem → Prop} : WP d 231 1 [l0, l1, l2, l3, l4] (vi 7 :: st) M Q = WP d 231 100 [l0, l1, l2, l3, l4] (st) M Q := w_sw mC_231 d231_1 (by decide +kernel)
theorem k231_1 {d : Nat} {l0 l1 l2 l3 l4 : Option PV} {st : List PV} {M : Mem} {Q : Option PV → Mem → Prop} {x : Int32} (h : x.toInt < 0 ∨ 7 < x.toInt) : WP d 231 1 [l0, l1, l2, l3, l4] (vi x :: st) M Q = WP d 231 131 [l0, l1, l2, l3, l4] (st) M Q := w_swd mC_231 d231_1 (by decide) h
theorem d231_48 : decode cX12_singsBy 48 = .ok (.aload_n 0, 1) := by decide +kernel
theorem k231_48 {d x : Nat} {l1 l2 l3 l4 : Option PV} {st : List PV} {M : Mem} {Q : Option PV → Mem → Prop} : WP d 231 48 [some (vr x), l1, l2, l3, l4] (st) M Q = WP d 231 49 [some (vr x), l1, l2, l3, l4] (vr x :: st) M Q := w1 mC_231 d231_48 rfl rfl
theorem d231_49 : decode cX12_singsBy 49 = .ok (.bipush 10, 2) := by decide +kernel
theorem k231_49 {d : Nat} {l0 l1 l2 l3 l4 : Option PV} {st : List PV} {M : Mem} {Q : Option PV → Mem → Prop} : WP d 231 49 [l0, l1, l2, l3, l4] (st) M Q = WP d 231 51 [l0, l1, l2, l3, l4] (vi 10 :: st) M Q := w_bipush mC_231 d231_49 (by decide)
theorem d231_51 : decode cX12_singsBy 51 = .ok (.invokevirtual 344, 3) := by decide +kernel
theorem k231_51 {d : Nat} {l0 l1 l2 l3 l4 : Option PV} {st : List PV} {M : Mem} {Q : Option PV → Mem → Prop} {a0 : Int32} {r : Nat} (hl : szL st ≤ 8) (hk : mK M r = 12) : WP (d + 1) 231 51 [l0, l1, l2, l3, l4] (vi a0 :: vr r :: st) M Q = WP d 229 0 [some (vr r), some (vi a0)] [] M (fun v M' => WP (d + 1) 231 54 [l0, l1, l2, l3, l4] (psh v st) M' Q) := w_callV mC_231 d231_51 (ci := 12) rfl rfl rfl (Nat.le_of_ble_eq_true rfl) (by decide) rfl hl hk
theorem d231_54 : decode cX12_singsBy 54 = .ok (.aload_n 0, 1) := by decide +kernel
theorem k231_54 {d x : Nat} {l1 l2 l3 l4 : Option PV} {st : List PV} {M : Mem} {Q : Option PV → Mem → Prop} : WP d 231 54 [some (vr x), l1, l2, l3, l4] (st) M Q = WP d 231 55 [some (vr x), l1, l2, l3, l4] (vr x :: st) M Q := w1 mC_231 d231_54 rfl rfl
theorem d231_55 : decode cX12_singsBy 55 = .ok (.iload_n 1, 1) := by decide +kernel
theorem k231_55 {d : Nat} {x : Int32} {l0 l2 l3 l4 : Option PV} {st : List PV} {M : Mem} {Q : Option PV → Mem → Prop} : WP d 231 55 [l0, some (vi x), l2, l3, l4] (st) M Q = WP d 231 56 [l0, some (vi x), l2, l3, l4] (vi x :: st) M Q := w1 mC_231 d231_55 rfl rfl
theorem d231_56 : decode cX12_singsBy 56 = .ok (.aload_n 0, 1) := by decide +kernel
theorem k231_56 {d x : Nat} {l1 l2 l3 l4 : Option PV} {st : List PV} {M : Mem} {Q : Option PV → Mem → Prop} : WP d 231 56 [some (vr x), l1, l2, l3, l4] (st) M Q = WP d 231 57 [some (vr x), l1, l2, l3, l4] (vr x :: st) M Q := w1 mC_231 d231_56 rfl rfl
theorem d231_57 : decode cX12_singsBy 57 = .ok (.getfield 63, 3) := by decide +kernel
theorem k231_57 {d : Nat} {l0 l1 l2 l3 l4 : Option PV} {st : List PV} {M : Mem} {Q : Option PV → Mem → Prop} {r : Nat} (hk : mK M r = 12) : WP d 231 57 [l0, l1, l2, l3, l4] (vr r :: st) M Q = WP d 231 60 [l0, l1, l2, l3, l4] (vr (mR M r 32) :: st) M Q := w_getr mC_231 d231_57 fE_12_63 rfl (by rw [hk]; rfl)
theorem d231_60 : decode cX12_singsBy 60 = .ok (.iload_n 1, 1) := by decide +kernel
theorem k231_60 {d : Nat} {x : Int32} {l0 l2 l3 l4 : Option PV} {st : List PV} {M : Mem} {Q : Option PV → Mem → Prop} : WP d 231 60 [l0, some (vi x), l2, l3, l4] (st) M Q = WP d 231 61 [l0, some (vi x), l2, l3, l4] (vi x :: st) M Q := w1 mC_231 d231_60 rfl rfl
theorem d231_61 : decode cX12_singsBy 61 = .ok (.iaload, 1) := by decide +kernel
theorem k231_61 {d : Nat} {l0 l1 l2 l3 l4 : Option PV} {st : List PV} {M : Mem} {Q : Option PV → Mem → Prop} {r : Nat} {j : Int32} (hk : mK M r = 13) (hj : inb j (mN M r)) (h1 : r ≠ 1) : WP d 231 61 [l0, l1, l2, l3, l4] (vi j :: vr r :: st) M Q = WP d 231 62 [l0, l1, l2, l3, l4] (vi (mI M r (ix j)) :: st) M Q := w_iald mC_231 d231_61 (by decide) hk hj h1
theorem d231_62 : decode cX12_singsBy 62 = .ok (.iload_n 3, 1) := by decide +kernel
theorem k231_62 {d : Nat} {x : Int32} {l0 l1 l2 l4 : Option PV} {st : List PV} {M : Mem} {Q : Option PV → Mem → Prop} : WP d 231 62 [l0, l1, l2, some (vi x), l4] (st) M Q = WP d 231 63 [l0, l1, l2, some (vi x), l4] (vi x :: st) M Q := w1 mC_231 d231_62 rfl rfl
theorem d231_63 : decode cX12_singsBy 63 = .ok (.invokevirtual 347, 3) := by decide +kernel
theorem k231_63 {d : Nat} {l0 l1 l2 l3 l4 : Option PV} {st : List PV} {M : Mem} {Q : Option PV → Mem → Prop} {a0 a1 a2 : Int32} {r : Nat} (hl : szL st ≤ 8) (hk : mK M r = 12) : WP (d + 1) 231 63 [l0, l1, l2, l3, l4] (vi a2 :: vi a1 :: vi a0 :: vr r :: st) M Q = WP d 230 0 [some (vr r), some (vi a0), some (vi a1), some (vi a2)] [] M (fun v M' => WP (d + 1) 231 66 [l0, l1, l2, l3, l4] (psh v st) M' Q) := w_callV mC_231 d231_63 (ci := 12) rfl rfl rfl (Nat.le_of_ble_eq_true rfl) (by decide) rfl hl hk
theorem d231_66 : decode cX12_singsBy 66 = .ok (.iconst 2, 1) := by decide +kernel
theorem k231_66 {d : Nat} {l0 l1 l2 l3 l4 : Option PV} {st : List PV} {M : Mem} {Q : Option PV → Mem → Prop} : WP d 231 66 [l0, l1, l2, l3, l4] (st) M Q = WP d 231 67 [l0, l1, l2, l3, l4] (vi 2 :: st) M Q := w_iconst mC_231 d231_66 (by decide)
theorem d231_67 : decode cX12_singsBy 67 = .ok (.imul, 1) := by decide +kernel
theorem k231_67 {d : Nat} {l0 l1 l2 l3 l4 : Option PV} {st : List PV} {M : Mem} {Q : Option PV → Mem → Prop} {x y : Int32} : WP d 231 67 [l0, l1, l2, l3, l4] (vi y :: vi x :: st) M Q = WP d 231 68 [l0, l1, l2, l3, l4] (vi (x * y) :: st) M Q := w1 mC_231 d231_67 rfl rfl
theorem d231_68 : decode cX12_singsBy 68 = .ok (.ireturn, 1) := by decide +kernel
theorem k231_68 {d : Nat} {l0 l1 l2 l3 l4 : Option PV} {M : Mem} {Q : Option PV → Mem → Prop} {x : Int32} : WP d 231 68 [l0, l1, l2, l3, l4] ([vi x]) M Q = Q (some (vi x)) M := w_iret mC_231 d231_68 rfl
theorem d231_69 : decode cX12_singsBy 69 = .ok (.aload_n 0, 1) := by decide +kernel
theorem k231_69 {d x : Nat} {l1 l2 l3 l4 : Option PV} {st : List PV} {M : Mem} {Q : Option PV → Mem → Prop} : WP d 231 69 [some (vr x), l1, l2, l3, l4] (st) M Q = WP d 231 70 [some (vr x), l1, l2, l3, l4] (vr x :: st) M Q := w1 mC_231 d231_69 rfl rfl
theorem d231_70 : decode cX12_singsBy 70 = .ok (.bipush 30, 2) := by decide +kernel
theorem k231_70 {d : Nat} {l0 l1 l2 l3 l4 : Option PV} {st : List PV} {M : Mem} {Q : Option PV → Mem → Prop} : WP d 231 70 [l0, l1, l2, l3, l4] (st) M Q = WP d 231 72 [l0, l1, l2, l3, l4] (vi 30 :: st) M Q := w_bipush mC_231 d231_70 (by decide)
theorem d231_72 : decode cX12_singsBy 72 = .ok (.invokevirtual 344, 3) := by decide +kernel
theorem k231_72 {d : Nat} {l0 l1 l2 l3 l4 : Option PV} {st : List PV} {M : Mem} {Q : Option PV → Mem → Prop} {a0 : Int32} {r : Nat} (hl : szL st ≤ 8) (hk : mK M r = 12) : WP (d + 1) 231 72 [l0, l1, l2, l3, l4] (vi a0 :: vr r :: st) M Q = WP d 229 0 [some (vr r), some (vi a0)] [] M (fun v M' => WP (d + 1) 231 75 [l0, l1, l2, l3, l4] (psh v st) M' Q) := w_callV mC_231 d231_72 (ci := 12) rfl rfl rfl (Nat.le_of_ble_eq_true rfl) (by decide) rfl hl hk
theorem d231_75 : decode cX12_singsBy 75 = .ok (.aload_n 0, 1) := by decide +kernel
theorem k231_75 {d x : Nat} {l1 l2 l3 l4 : Option PV} {st : List PV} {M : Mem} {Q : Option PV → Mem → Prop} : WP d 231 75 [some (vr x), l1, l2, l3, l4] (st) M Q = WP d 231 76 [some (vr x), l1, l2, l3, l4] (vr x :: st) M Q := w1 mC_231 d231_75 rfl rfl
theorem d231_76 : decode cX12_singsBy 76 = .ok (.iload_n 1, 1) := by decide +kernel
theorem k231_76 {d : Nat} {x : Int32} {l0 l2 l3 l4 : Option PV} {st : List PV} {M : Mem} {Q : Option PV → Mem → Prop} : WP d 231 76 [l0, some (vi x), l2, l3, l4] (st) M Q = WP d 231 77 [l0, some (vi x), l2, l3, l4] (vi x :: st) M Q := w1 mC_231 d231_76 rfl rfl
theorem d231_77 : decode cX12_singsBy 77 = .ok (.iconst 0, 1) := by decide +kernel
theorem k231_77 {d : Nat} {l0 l1 l2 l3 l4 : Option PV} {st : List PV} {M : Mem} {Q : Option PV → Mem → Prop} : WP d 231 77 [l0, l1, l2, l3, l4] (st) M Q = WP d 231 78 [l0, l1, l2, l3, l4] (vi 0 :: st) M Q := w_iconst mC_231 d231_77 (by decide)
theorem d231_78 : decode cX12_singsBy 78 = .ok (.iload_n 3, 1) := by decide +kernel
theorem k231_78 {d : Nat} {x : Int32} {l0 l1 l2 l4 : Option PV} {st : List PV} {M : Mem} {Q : Option PV → Mem → Prop} : WP d 231 78 [l0, l1, l2, some (vi x), l4] (st) M Q = WP d 231 79 [l0, l1, l2, some (vi x), l4] (vi x :: st) M Q := w1 mC_231 d231_78 rfl rfl
theorem d231_79 : decode cX12_singsBy 79 = .ok (.invokevirtual 353, 3) := by decide +kernel
theorem k231_79 {d : Nat} {l0 l1 l2 l3 l4 : Option PV} {st : List PV} {M : Mem} {Q : Option PV → Mem → Prop} {a0 a1 a2 : Int32} {r : Nat} (hl : szL st ≤ 8) (hk : mK M r = 12) : WP (d + 1) 231 79 [l0, l1, l2, l3, l4] (vi a2 :: vi a1 :: vi a0 :: vr r :: st) M Q = WP d 231 0 [some (vr r), some (vi a0), some (vi a1), some (vi a2), none] [] M (fun v M' => WP (d + 1) 231 82 [l0, l1, l2, l3, l4] (psh v st) M' Q) := w_callV mC_231 d231_79 (ci := 12) rfl rfl rfl (Nat.le_of_ble_eq_true rfl) (by decide) rfl hl hk
theorem d231_82 : decode cX12_singsBy 82 = .ok (.ineg, 1) := by decide +kernel
theorem k231_82 {d : Nat} {l0 l1 l2 l3 l4 : Option PV} {st : List PV} {M : Mem} {Q : Option PV → Mem → Prop} {x : Int32} : WP d 231 82 [l0, l1, l2, l3, l4] (vi x :: st) M Q = WP d 231 83 [l0, l1, l2, l3, l4] (vi (-x) :: st) M Q := w1 mC_231 d231_82 rfl rfl
theorem d231_83 : decode cX12_singsBy 83 = .ok (.ireturn, 1) := by decide +kernel
theorem k231_83 {d : Nat} {l0 l1 l2 l3 l4 : Option PV} {M : Mem} {Q : Option PV → Mem → Prop} {x : Int32} : WP d 231 83 [l0, l1, l2, l3, l4] ([vi x]) M Q = Q (some (vi x)) M := w_iret mC_231 d231_83 rfl
theorem d231_84 : decode cX12_singsBy 84 = .ok (.aload_n 0, 1) := by decide +kernel
theorem k231_84 {d x : Nat} {l1 l2 l3 l4 : Option PV} {st : List PV} {M : Mem} {Q : Option PV → Mem → Prop} : WP d 231 84 [some (vr x), l1, l2, l3, l4] (st) M Q = WP d 231 85 [some (vr x), l1, l2, l3, l4] (vr x :: st) M Q := w1 mC_231 d231_84 rfl rfl
theorem d231_85 : decode cX12_singsBy 85 = .ok (.bipush 41, 2) := by decide +kernel
theorem k231_85 {d : Nat} {l0 l1 l2 l3 l4 : Option PV} {st : List PV} {M : Mem} {Q : Option PV → Mem → Prop} : WP d 231 85 [l0, l1, l2, l3, l4] (st) M Q = WP d 231 87 [l0, l1, l2, l3, l4] (vi 41 :: st) M Q := w_bipush mC_231 d231_85 (by decide)
theorem d231_87 : decode cX12_singsBy 87 = .ok (.invokevirtual 344, 3) := by decide +kernel
theorem k231_87 {d : Nat} {l0 l1 l2 l3 l4 : Option PV} {st : List PV} {M : Mem} {Q : Option PV → Mem → Prop} {a0 : Int32} {r : Nat} (hl : szL st ≤ 8) (hk : mK M r = 12) : WP (d + 1) 231 87 [l0, l1, l2, l3, l4] (vi a0 :: vr r :: st) M Q = WP d 229 0 [some (vr r), some (vi a0)] [] M (fun v M' => WP (d + 1) 231 90 [l0, l1, l2, l3, l4] (psh v st) M' Q) := w_callV mC_231 d231_87 (ci := 12) rfl rfl rfl (Nat.le_of_ble_eq_true rfl) (by decide) rfl hl hk
theorem d231_90 : decode cX12_singsBy 90 = .ok (.aload_n 0, 1) := by decide +kernel
theorem k231_90 {d x : Nat} {l1 l2 l3 l4 : Option PV} {st : List PV} {M : Mem} {Q : Option PV → Mem → Prop} : WP d 231 90 [some (vr x), l1, l2, l3, l4] (st) M Q = WP d 231 91 [some (vr x), l1, l2, l3, l4] (vr x :: st) M Q := w1 mC_231 d231_90 rfl rfl
theorem d231_91 : decode cX12_singsBy 91 = .ok (.iload_n 1, 1) := by decide +kernel
theorem k231_91 {d : Nat} {x : Int32} {l0 l2 l3 l4 : Option PV} {st : List PV} {M : Mem} {Q : Option PV → Mem → Prop} : WP d 231 91 [l0, some (vi x), l2, l3, l4] (st) M Q = WP d 231 92 [l0, some (vi x), l2, l3, l4] (vi x :: st) M Q := w1 mC_231 d231_91 rfl rfl
theorem d231_92 : decode cX12_singsBy 92 = .ok (.iconst 2, 1) := by decide +kernel
theorem k231_92 {d : Nat} {l0 l1 l2 l3 l4 : Option PV} {st : List PV} {M : Mem} {Q : Option PV → Mem → Prop} : WP d 231 92 [l0, l1, l2, l3, l4] (st) M Q = WP d 231 93 [l0, l1, l2, l3, l4] (vi 2 :: st) M Q := w_iconst mC_231 d231_92 (by decide)
theorem d231_93 : decode cX12_singsBy 93 = .ok (.iload_n 3, 1) := by decide +kernel
theorem k231_93 {d : Nat} {x : Int32} {l0 l1 l2 l4 : Option PV} {st : List PV} {M : Mem} {Q : Option PV → Mem → Prop} : WP d 231 93 [l0, l1, l2, some (vi x), l4] (st) M Q = WP d 231 94 [l0, l1, l2, some (vi x), l4] (vi x :: st) M Q := w1 mC_231 d231_93 rfl rfl
theorem d231_94 : decode cX12_singsBy 94 = .ok (.iconst 1, 1) := by decide +kernel
theorem k231_94 {d : Nat} {l0 l1 l2 l3 l4 : Option PV} {st : List PV} {M : Mem} {Q : Option PV → Mem → Prop} : WP d 231 94 [l0, l1, l2, l3, l4] (st) M Q = WP d 231 95 [l0, l1, l2, l3, l4] (vi 1 :: st) M Q := w_iconst mC_231 d231_94 (by decide)
theorem d231_95 : decode cX12_singsBy 95 = .ok (.iadd, 1) := by decide +kernel
theorem k231_95 {d : Nat} {l0 l1 l2 l3 l4 : Option PV} {st : List PV} {M : Mem} {Q : Option PV → Mem → Prop} {x y : Int32} : WP d 231 95 [l0, l1, l2, l3, l4] (vi y :: vi x :: st) M Q = WP d 231 96 [l0, l1, l2, l3, l4] (vi (x + y) :: st) M Q := w1 mC_231 d231_95 rfl rfl
theorem d231_96 : decode cX12_singsBy 96 = .ok (.invokevirtual 353, 3) := by decide +kernel
theorem k231_96 {d : Nat} {l0 l1 l2 l3 l4 : Option PV} {st : List PV} {M : Mem} {Q : Option PV → Mem → Prop} {a0 a1 a2 : Int32} {r : Nat} (hl : szL st ≤ 8) (hk : mK M r = 12) : WP (d + 1) 231 96 [l0, l1, l2, l3, l4] (vi a2 :: vi a1 :: vi a0 :: vr r :: st) M Q = WP d 231 0 [some (vr r), some (vi a0), some (vi a1), some (vi a2), none] [] M (fun v M' => WP (d + 1) 231 99 [l0, l1, l2, l3, l4] (psh v st) M' Q) := w_callV mC_231 d231_96 (ci := 12) rfl rfl rfl (Nat.le_of_ble_eq_true rfl) (by decide) rfl hl hk
theorem d231_99 : decode cX12_singsBy 99 = .ok (.ireturn, 1) := by decide +kernel
theorem k231_99 {d : Nat} {l0 l1 l2 l3 l4 : Option PV} {M : Mem} {Q : Option PV → Mem → Prop} {x : Int32} : WP d 231 99 [l0, l1, l2, l3, l4] ([vi x]) M Q = Q (some (vi x)) M := w_iret mC_231 d231_99 rfl
theorem d231_100 : decode cX12_singsBy 100 = .ok (.aload_n 0, 1) := by decide +kernel
theorem k231_100 {d x : Nat} {l1 l2 l3 l4 : Option PV} {st : List PV} {M : Mem} {Q : Option PV → Mem → Prop} : WP d 231 100 [some (vr x), l1, l2, l3, l4] (st) M Q = WP d 231 101 [some (vr x), l1, l2, l3, l4] (vr x :: st) M Q := w1 mC_231 d231_100 rfl rfl
theorem d231_101 : decode cX12_singsBy 101 = .ok (.bipush 80, 2) := by decide +kernel
theorem k231_101 {d : Nat} {l0 l1 l2 l3 l4 : Option PV} {st : List PV} {M : Mem} {Q : Option PV → Mem → Prop} : WP d 231 101 [l0, l1, l2, l3, l4] (st) M Q = WP d 231 103 [l0, l1, l2, l3, l4] (vi 80 :: st) M Q := w_bipush mC_231 d231_101 (by decide)
theorem d231_103 : decode cX12_singsBy 103 = .ok (.invokevirtual 344, 3) := by decide +kernel
theorem k231_103 {d : Nat} {l0 l1 l2 l3 l4 : Option PV} {st : List PV} {M : Mem} {Q : Option PV → Mem → Prop} {a0 : Int32} {r : Nat} (hl : szL st ≤ 8) (hk : mK M r = 12) : WP (d + 1) 231 103 [l0, l1, l2, l3, l4] (vi a0 :: vr r :: st) M Q = WP d 229 0 [some (vr r), some (vi a0)] [] M (fun v M' => WP (d + 1) 231 106 [l0, l1, l2, l3, l4] (psh v st) M' Q) := w_callV mC_231 d231_103 (ci := 12) rfl rfl rfl (Nat.le_of_ble_eq_true rfl) (by decide) rfl hl hk
theorem d231_106 : decode cX12_singsBy 106 = .ok (.aload_n 0, 1) := by decide +kernel
theorem k231_106 {d x : Nat} {l1 l2 l3 l4 : Option PV} {st : List PV} {M : Mem} {Q : Option PV → Mem → Prop} : WP d 231 106 [some (vr x), l1, l2, l3, l4] (st) M Q = WP d 231 107 [some (vr x), l1, l2, l3, l4] (vr x :: st) M Q := w1 mC_231 d231_106 rfl rfl
theorem d231_107 : decode cX12_singsBy 107 = .ok (.iload_n 1, 1) := by decide +kernel
theorem k231_107 {d : Nat} {x : Int32} {l0 l2 l3 l4 : Option PV} {st : List PV} {M : Mem} {Q : Option PV → Mem → Prop} : WP d 231 107 [l0, some (vi x), l2, l3, l4] (st) M Q = WP d 231 108 [l0, some (vi x), l2, l3, l4] (vi x :: st) M Q := w1 mC_231 d231_107 rfl rfl
theorem d231_108 : decode cX12_singsBy 108 = .ok (.iconst 4, 1) := by decide +kernel
theorem k231_108 {d : Nat} {l0 l1 l2 l3 l4 : Option PV} {st : List PV} {M : Mem} {Q : Option PV → Mem → Prop} : WP d 231 108 [l0, l1, l2, l3, l4] (st) M Q = WP d 231 109 [l0, l1, l2, l3, l4] (vi 4 :: st) M Q := w_iconst mC_231 d231_108 (by decide)
theorem d231_109 : decode cX12_singsBy 109 = .ok (.iload_n 3, 1) := by decide +kernel
theorem k231_109 {d : Nat} {x : Int32} {l0 l1 l2 l4 : Option PV} {st : List PV} {M : Mem} {Q : Option PV → Mem → Prop} : WP d 231 109 [l0, l1, l2, some (vi x), l4] (st) M Q = WP d 231 110 [l0, l1, l2, some (vi x), l4] (vi x :: st) M Q := w1 mC_231 d231_109 rfl rfl
theorem d231_110 : decode cX12_singsBy 110 = .ok (.invokevirtual 353, 3) := by decide +kernel
theorem k231_110 {d : Nat} {l0 l1 l2 l3 l4 : Option PV} {st : List PV} {M : Mem} {Q : Option PV → Mem → Prop} {a0 a1 a2 : Int32} {r : Nat} (hl : szL st ≤ 8) (hk : mK M r = 12) : WP (d + 1) 231 110 [l0, l1, l2, l3, l4] (vi a2 :: vi a1 :: vi a0 :: vr r :: st) M Q = WP d 231 0 [some (vr r), some (vi a0), some (vi a1), some (vi a2), none] [] M (fun v M' => WP (d + 1) 231 113 [l0, l1, l2, l3, l4] (psh v st) M' Q) := w_callV mC_231 d231_110 (ci := 12) rfl rfl rfl (Nat.le_of_ble_eq_true rfl) (by decide) rfl hl hk
theorem d231_113 : decode cX12_singsBy 113 = .ok (.istore 4, 2) := by decide +kernel
theorem k231_113 {d : Nat} {l0 l1 l2 l3 l4 : Option PV} {st : List PV} {M : Mem} {Q : Option PV → Mem → Prop} {x : Int32} : WP d 231 113 [l0, l1, l2, l3, l4] (vi x :: st) M Q = WP d 231 115 [l0, l1, l2, l3, some (vi x)] (st) M Q := w1 mC_231 d231_113 rfl rfl
theorem d231_115 : decode cX12_singsBy 115 = .ok (.iload 4, 2) := by decide +kernel
theorem k231_115 {d : Nat} {x : Int32} {l0 l1 l2 l3 : Option PV} {st : List PV} {M : Mem} {Q : Option PV → Mem → Prop} : WP d 231 115 [l0, l1, l2, l3, some (vi x)] (st) M Q = WP d 231 117 [l0, l1, l2, l3, some (vi x)] (vi x :: st) M Q := w1 mC_231 d231_115 rfl rfl
theorem d231_117 : decode cX12_singsBy 117 = .ok (.aload_n 0, 1) := by decide +kernel
theorem k231_117 {d x : Nat} {l1 l2 l3 l4 : Option PV} {st : List PV} {M : Mem} {Q : Option PV → Mem → Prop} : WP d 231 117 [some (vr x), l1, l2, l3, l4] (st) M Q = WP d 231 118 [some (vr x), l1, l2, l3, l4] (vr x :: st) M Q := w1 mC_231 d231_117 rfl rfl
theorem d231_118 : decode cX12_singsBy 118 = .ok (.iload_n 1, 1) := by decide +kernel
theorem k231_118 {d : Nat} {x : Int32} {l0 l2 l3 l4 : Option PV} {st : List PV} {M : Mem} {Q : Option PV → Mem → Prop} : WP d 231 118 [l0, some (vi x), l2, l3, l4] (st) M Q = WP d 231 119 [l0, some (vi x), l2, l3, l4] (vi x :: st) M Q := w1 mC_231 d231_118 rfl rfl
theorem d231_119 : decode cX12_singsBy 119 = .ok (.aload_n 0, 1) := by decide +kernel
theorem k231_119 {d x : Nat} {l1 l2 l3 l4 : Option PV} {st : List PV} {M : Mem} {Q : Option PV → Mem → Prop} : WP d 231 119 [some (vr x), l1, l2, l3, l4] (st) M Q = WP d 231 120 [some (vr x), l1, l2, l3, l4] (vr x :: st) M Q := w1 mC_231 d231_119 rfl rfl
theorem d231_120 : decode cX12_singsBy 120 = .ok (.getfield 63, 3) := by decide +kernel
theorem k231_120 {d : Nat} {l0 l1 l2 l3 l4 : Option PV} {st : List PV} {M : Mem} {Q : Option PV → Mem → Prop} {r : Nat} (hk : mK M r = 12) : WP d 231 120 [l0, l1, l2, l3, l4] (vr r :: st) M Q = WP d 231 123 [l0, l1, l2, l3, l4] (vr (mR M r 32) :: st) M Q := w_getr mC_231 d231_120 fE_12_63 rfl (by rw [hk]; rfl)
theorem d231_123 : decode cX12_singsBy 123 = .ok (.iload_n 1, 1) := by decide +kernel
theorem k231_123 {d : Nat} {x : Int32} {l0 l2 l3 l4 : Option PV} {st : List PV} {M : Mem} {Q : Option PV → Mem → Prop} : WP d 231 123 [l0, some (vi x), l2, l3, l4] (st) M Q = WP d 231 124 [l0, some (vi x), l2, l3, l4] (vi x :: st) M Q := w1 mC_231 d231_123 rfl rfl
theorem d231_124 : decode cX12_singsBy 124 = .ok (.iaload, 1) := by decide +kernel
theorem k231_124 {d : Nat} {l0 l1 l2 l3 l4 : Option PV} {st : List PV} {M : Mem} {Q : Option PV → Mem → Prop} {r : Nat} {j : Int32} (hk : mK M r = 13) (hj : inb j (mN M r)) (h1 : r ≠ 1) : WP d 231 124 [l0, l1, l2, l3, l4] (vi j :: vr r :: st) M Q = WP d 231 125 [l0, l1, l2, l3, l4] (vi (mI M r (ix j)) :: st) M Q := w_iald mC_231 d231_124 (by decide) hk hj h1
theorem d231_125 : decode cX12_singsBy 125 = .ok (.iconst 2, 1) := by decide +kernel
theorem k231_125 {d : Nat} {l0 l1 l2 l3 l4 : Option PV} {st : List PV} {M : Mem} {Q : Option PV → Mem → Prop} : WP d 231 125 [l0, l1, l2, l3, l4] (st) M Q = WP d 231 126 [l0, l1, l2, l3, l4] (vi 2 :: st) M Q := w_iconst mC_231 d231_125 (by decide)
theorem d231_126 : decode cX12_singsBy 126 = .ok (.invokevirtual 356, 3) := by decide +kernel
theorem k231_126 {d : Nat} {l0 l1 l2 l3 l4 : Option PV} {st : List PV} {M : Mem} {Q : Option PV → Mem → Prop} {a0 a1 a2 : Int32} {r : Nat} (hl : szL st ≤ 8) (hk : mK M r = 12) : WP (d + 1) 231 126 [l0, l1, l2, l3, l4] (vi a2 :: vi a1 :: vi a0 :: vr r :: st) M Q = WP d 232 0 [some (vr r), some (vi a0), some (vi a1), some (vi a2), none] [] M (fun v M' => WP (d + 1) 231 129 [l0, l1, l2, l3, l4] (psh v st) M' Q) := w_callV mC_231 d231_126 (ci := 12) rfl rfl rfl (Nat.le_of_ble_eq_true rfl) (by decide) rfl hl hk
theorem d231_129 : decode cX12_singsBy 129 = .ok (.iadd, 1) := by decide +kernel
theorem k231_129 {d : Nat} {l0 l1 l2 l3 l4 : Option PV} {st : List PV} {M : Mem} {Q : Option PV → Mem → Prop} {x y : Int32} : WP d 231 129 [l0, l1, l2, l3, l4] (vi y :: vi x :: st) M Q = WP d 231 130 [l0, l1, l2, l3, l4] (vi (x + y) :: st) M Q := w1 mC_231 d231_129 rfl rfl
theorem d231_130 : decode cX12_singsBy 130 = .ok (.ireturn, 1) := by decide +kernel
theorem k231_130 {d : Nat} {l0 l1 l2 l3 l4 : Option PV} {M : Mem} {Q : Option PV → Mem → Prop} {x : Int32} : WP d 231 130 [l0, l1, l2, l3, l4] ([vi x]) M Q = Q (some (vi x)) M := w_iret mC_231 d231_130 rfl
theorem d231_131 : decode cX12_singsBy 131 = .ok (.aload_n 0, 1) := by decide +kernel
theorem k231_131 {d x : Nat} {l1 l2 l3 l4 : Option PV} {st : List PV} {M : Mem} {Q : Option PV → Mem → Prop} : WP d 231 131 [some (vr x), l1, l2, l3, l4] (st) M Q = WP d 231 132 [some (vr x), l1, l2, l3, l4] (vr x :: st) M Q := w1 mC_231 d231_131 rfl rfl
theorem d231_132 : decode cX12_singsBy 132 = .ok (.iload_n 1, 1) := by decide +kernel
theorem k231_132 {d : Nat} {x : Int32} {l0 l2 l3 l4 : Option PV} {st : List PV} {M : Mem} {Q : Option PV → Mem → Prop} : WP d 231 132 [l0, some (vi x), l2, l3, l4] (st) M Q = WP d 231 133 [l0, some (vi x), l2, l3, l4] (vi x :: st) M Q := w1 mC_231 d231_132 rfl rfl
theorem d231_133 : decode cX12_singsBy 133 = .ok (.iload_n 2, 1) := by decide +kernel
theorem k231_133 {d : Nat} {x : Int32} {l0 l1 l3 l4 : Option PV} {st : List PV} {M : Mem} {Q : Option PV → Mem → Prop} : WP d 231 133 [l0, l1, some (vi x), l3, l4] (st) M Q = WP d 231 134 [l0, l1, some (vi x), l3, l4] (vi x :: st) M Q := w1 mC_231 d231_133 rfl rfl
theorem d231_134 : decode cX12_singsBy 134 = .ok (.invokestatic 350, 3) := by decide +kernel
theorem k231_134 {d : Nat} {l0 l1 l2 l3 l4 : Option PV} {st : List PV} {M : Mem} {Q : Option PV → Mem → Prop} {a0 : Int32} (hl : szL st ≤ 8) : WP (d + 1) 231 134 [l0, l1, l2, l3, l4] (vi a0 :: st) M Q = WP d 228 0 [some (vi a0)] [] M (fun v M' => WP (d + 1) 231 137 [l0, l1, l2, l3, l4] (psh v st) M' Q) := w_callS mC_231 d231_134 rfl rfl (Nat.le_of_ble_eq_true rfl) (by decide) rfl hl
theorem d231_137 : decode cX12_singsBy 137 = .ok (.iload_n 3, 1) := by decide +kernel
theorem k231_137 {d : Nat} {x : Int32} {l0 l1 l2 l4 : Option PV} {st : List PV} {M : Mem} {Q : Option PV → Mem → Prop} : WP d 231 137 [l0, l1, l2, some (vi x), l4] (st) M Q = WP d 231 138 [l0, l1, l2, some (vi x), l4] (vi x :: st) M Q := w1 mC_231 d231_137 rfl rfl
theorem d231_138 : decode cX12_singsBy 138 = .ok (.invokevirtual 353, 3) := by decide +kernel
theorem k231_138 {d : Nat} {l0 l1 l2 l3 l4 : Option PV} {st : List PV} {M : Mem} {Q : Option PV → Mem → Prop} {a0 a1 a2 : Int32} {r : Nat} (hl : szL st ≤ 8) (hk : mK M r = 12) : WP (d + 1) 231 138 [l0, l1, l2, l3, l4] (vi a2 :: vi a1 :: vi a0 :: vr r :: st) M Q = WP d 231 0 [some (vr r), some (vi a0), some (vi a1), some (vi a2), none] [] M (fun v M' => WP (d + 1) 231 141 [l0, l1, l2, l3, l4] (psh v st) M' Q) := w_callV mC_231 d231_138 (ci := 12) rfl rfl rfl (Nat.le_of_ble_eq_true rfl) (by decide) rfl hl hk
theorem d231_141 : decode cX12_singsBy 141 = .ok (.ireturn, 1) := by decide +kernel
theorem k231_141 {d : Nat} {l0 l1 l2 l3 l4 : Option PV} {M : Mem} {Q : Option PV → Mem → Prop} {x : Int32} : WP d 231 141 [l0, l1, l2, l3, l4] ([vi x]) M Q = Q (some (vi x)) M := w_iret mC_231 d231_141 rfl
theorem d232_0 : decode cX12_keepsBy 0 = .ok (.iload_n 2, 1) := by decide +kernel
theorem k232_0 {d : Nat} {x : Int32} {l0 l1 l3 l4 : Option PV} {st : List PV} {M : Mem} {Q : Option PV → Mem → Prop} : WP d 232 0 [l0, l1, some (vi x), l3, l4] (st) M Q = WP d 232 1 [l0, l1, some (vi x), l3, l4] (vi x :: st) M Q := w1 mC_232 d232_0 rfl rfl
theorem d232_1 : decode cX12_keepsBy 1 = .ok (.tableswitch 92 0 4 #[35, 92, 92, 45, 61], 35) := by decide +kernel
theorem k232_1c0 {d : Nat} {l0 l1 l2 l3 l4 : Option PV} {st : List PV} {M : Mem} {Q : Option PV → Mem → Prop} : WP d 232 1 [l0, l1, l2, l3, l4] (vi 0 :: st) M Q = WP d 232 36 [l0, l1, l2, l3, l4] (st) M Q := w_sw mC_232 d232_1 (by decide +kernel)
theorem k232_1c1 {d : Nat} {l0 l1 l2 l3 l4 : Option PV} {st : List PV} {M : Mem} {Q : Option PV → Mem → Prop} : WP d 232 1 [l0, l1, l2, l3, l4] (vi 1 :: st) M Q = WP d 232 93 [l0, l1, l2, l3, l4] (st) M Q := w_sw mC_232 d232_1 (by decide +kernel)
theorem k232_1c2 {d : Nat} {l0 l1 l2 l3 l4 : Option PV} {st : List PV} {M : Mem} {Q : Option PV → Mem → Prop} : WP d 232 1 [l0, l1, l2, l3, l4] (vi 2 :: st) M Q = WP d 232 93 [l0, l1, l2, l3, l4] (st) M Q := w_sw mC_232 d232_1 (by decide +kernel)
theorem k232_1c3 {d : Nat} {l0 l1 l2 l3 l4 : Option PV} {st : List PV} {M : Mem} {Q : Option PV → Mem → Prop} : WP d 232 1 [l0, l1, l2, l3, l4] (vi 3 :: st) M Q = WP d 232 46 [l0, l1, l2, l3, l4] (st) M Q := w_sw mC_232 d232_1 (by decide +kernel)
theorem k232_1c4 {d : Nat} {l0 l1 l2 l3 l4 : Option PV} {st : List PV} {M : Mem} {Q : Option PV → Mem → Prop} : WP d 232 1 [l0, l1, l2, l3, l4] (vi 4 :: st) M Q = WP d 232 62 [l0, l1, l2, l3, l4] (st) M Q := w_sw mC_232 d232_1 (by decide +kernel)
theorem k232_1 {d : Nat} {l0 l1 l2 l3 l4 : Option PV} {st : List PV} {M : Mem} {Q : Option PV → Mem → Prop} {x : Int32} (h : x.toInt < 0 ∨ 4 < x.toInt) : WP d 232 1 [l0, l1, l2, l3, l4] (vi x :: st) M Q = WP d 232 93 [l0, l1, l2, l3, l4] (st) M Q := w_swd mC_232 d232_1 (by decide) h
theorem d232_36 : decode cX12_keepsBy 36 = .ok (.aload_n 0, 1) := by decide +kernel
theorem k232_36 {d x : Nat} {l1 l2 l3 l4 : Option PV} {st : List PV} {M : Mem} {Q : Option PV → Mem → Prop} : WP d 232 36 [some (vr x), l1, l2, l3, l4] (st) M Q = WP d 232 37 [some (vr x), l1, l2, l3, l4] (vr x :: st) M Q := w1 mC_232 d232_36 rfl rfl
theorem d232_37 : decode cX12_keepsBy 37 = .ok (.bipush 11, 2) := by decide +kernel
theorem k232_37 {d : Nat} {l0 l1 l2 l3 l4 : Option PV} {st : List PV} {M : Mem} {Q : Option PV → Mem → Prop} : WP d 232 37 [l0, l1, l2, l3, l4] (st) M Q = WP d 232 39 [l0, l1, l2, l3, l4] (vi 11 :: st) M Q := w_bipush mC_232 d232_37 (by decide)
theorem d232_39 : decode cX12_keepsBy 39 = .ok (.invokevirtual 344, 3) := by decide +kernel
theorem k232_39 {d : Nat} {l0 l1 l2 l3 l4 : Option PV} {st : List PV} {M : Mem} {Q : Option PV → Mem → Prop} {a0 : Int32} {r : Nat} (hl : szL st ≤ 8) (hk : mK M r = 12) : WP (d + 1) 232 39 [l0, l1, l2, l3, l4] (vi a0 :: vr r :: st) M Q = WP d 229 0 [some (vr r), some (vi a0)] [] M (fun v M' => WP (d + 1) 232 42 [l0, l1, l2, l3, l4] (psh v st) M' Q) := w_callV mC_232 d232_39 (ci := 12) rfl rfl rfl (Nat.le_of_ble_eq_true rfl) (by decide) rfl hl hk
theorem d232_42 : decode cX12_keepsBy 42 = .ok (.iload_n 3, 1) := by decide +kernel
theorem k232_42 {d : Nat} {x : Int32} {l0 l1 l2 l4 : Option PV} {st : List PV} {M : Mem} {Q : Option PV → Mem → Prop} : WP d 232 42 [l0, l1, l2, some (vi x), l4] (st) M Q = WP d 232 43 [l0, l1, l2, some (vi x), l4] (vi x :: st) M Q := w1 mC_232 d232_42 rfl rfl
theorem d232_43 : decode cX12_keepsBy 43 = .ok (.iload_n 1, 1) := by decide +kernel
theorem k232_43 {d : Nat} {x : Int32} {l0 l2 l3 l4 : Option PV} {st : List PV} {M : Mem} {Q : Option PV → Mem → Prop} : WP d 232 43 [l0, some (vi x), l2, l3, l4] (st) M Q = WP d 232 44 [l0, some (vi x), l2, l3, l4] (vi x :: st) M Q := w1 mC_232 d232_43 rfl rfl
theorem d232_44 : decode cX12_keepsBy 44 = .ok (.ixor, 1) := by decide +kernel
theorem k232_44 {d : Nat} {l0 l1 l2 l3 l4 : Option PV} {st : List PV} {M : Mem} {Q : Option PV → Mem → Prop} {x y : Int32} : WP d 232 44 [l0, l1, l2, l3, l4] (vi y :: vi x :: st) M Q = WP d 232 45 [l0, l1, l2, l3, l4] (vi (x ^^^ y) :: st) M Q := w1 mC_232 d232_44 rfl rfl
theorem d232_45 : decode cX12_keepsBy 45 = .ok (.ireturn, 1) := by decide +kernel
theorem k232_45 {d : Nat} {l0 l1 l2 l3 l4 : Option PV} {M : Mem} {Q : Option PV → Mem → Prop} {x : Int32} : WP d 232 45 [l0, l1, l2, l3, l4] ([vi x]) M Q = Q (some (vi x)) M := w_iret mC_232 d232_45 rfl
theorem d232_46 : decode cX12_keepsBy 46 = .ok (.aload_n 0, 1) := by decide +kernel
theorem k232_46 {d x : Nat} {l1 l2 l3 l4 : Option PV} {st : List PV} {M : Mem} {Q : Option PV → Mem → Prop} : WP d 232 46 [some (vr x), l1, l2, l3, l4] (st) M Q = WP d 232 47 [some (vr x), l1, l2, l3, l4] (vr x :: st) M Q := w1 mC_232 d232_46 rfl rfl
theorem d232_47 : decode cX12_keepsBy 47 = .ok (.bipush 40, 2) := by decide +kernel
theorem k232_47 {d : Nat} {l0 l1 l2 l3 l4 : Option PV} {st : List PV} {M : Mem} {Q : Option PV → Mem → Prop} : WP d 232 47 [l0, l1, l2, l3, l4] (st) M Q = WP d 232 49 [l0, l1, l2, l3, l4] (vi 40 :: st) M Q := w_bipush mC_232 d232_47 (by decide)
theorem d232_49 : decode cX12_keepsBy 49 = .ok (.invokevirtual 344, 3) := by decide +kernel
theorem k232_49 {d : Nat} {l0 l1 l2 l3 l4 : Option PV} {st : List PV} {M : Mem} {Q : Option PV → Mem → Prop} {a0 : Int32} {r : Nat} (hl : szL st ≤ 8) (hk : mK M r = 12) : WP (d + 1) 232 49 [l0, l1, l2, l3, l4] (vi a0 :: vr r :: st) M Q = WP d 229 0 [some (vr r), some (vi a0)] [] M (fun v M' => WP (d + 1) 232 52 [l0, l1, l2, l3, l4] (psh v st) M' Q) := w_callV mC_232 d232_49 (ci := 12) rfl rfl rfl (Nat.le_of_ble_eq_true rfl) (by decide) rfl hl hk
theorem d232_52 : decode cX12_keepsBy 52 = .ok (.aload_n 0, 1) := by decide +kernel
theorem k232_52 {d x : Nat} {l1 l2 l3 l4 : Option PV} {st : List PV} {M : Mem} {Q : Option PV → Mem → Prop} : WP d 232 52 [some (vr x), l1, l2, l3, l4] (st) M Q = WP d 232 53 [some (vr x), l1, l2, l3, l4] (vr x :: st) M Q := w1 mC_232 d232_52 rfl rfl
theorem d232_53 : decode cX12_keepsBy 53 = .ok (.iload_n 1, 1) := by decide +kernel
theorem k232_53 {d : Nat} {x : Int32} {l0 l2 l3 l4 : Option PV} {st : List PV} {M : Mem} {Q : Option PV → Mem → Prop} : WP d 232 53 [l0, some (vi x), l2, l3, l4] (st) M Q = WP d 232 54 [l0, some (vi x), l2, l3, l4] (vi x :: st) M Q := w1 mC_232 d232_53 rfl rfl
theorem d232_54 : decode cX12_keepsBy 54 = .ok (.iconst 2, 1) := by decide +kernel
theorem k232_54 {d : Nat} {l0 l1 l2 l3 l4 : Option PV} {st : List PV} {M : Mem} {Q : Option PV → Mem → Prop} : WP d 232 54 [l0, l1, l2, l3, l4] (st) M Q = WP d 232 55 [l0, l1, l2, l3, l4] (vi 2 :: st) M Q := w_iconst mC_232 d232_54 (by decide)
theorem d232_55 : decode cX12_keepsBy 55 = .ok (.iload_n 3, 1) := by decide +kernel
theorem k232_55 {d : Nat} {x : Int32} {l0 l1 l2 l4 : Option PV} {st : List PV} {M : Mem} {Q : Option PV → Mem → Prop} : WP d 232 55 [l0, l1, l2, some (vi x), l4] (st) M Q = WP d 232 56 [l0, l1, l2, some (vi x), l4] (vi x :: st) M Q := w1 mC_232 d232_55 rfl rfl
theorem d232_56 : decode cX12_keepsBy 56 = .ok (.invokevirtual 356, 3) := by decide +kernel
theorem k232_56 {d : Nat} {l0 l1 l2 l3 l4 : Option PV} {st : List PV} {M : Mem} {Q : Option PV → Mem → Prop} {a0 a1 a2 : Int32} {r : Nat} (hl : szL st ≤ 8) (hk : mK M r = 12) : WP (d + 1) 232 56 [l0, l1, l2, l3, l4] (vi a2 :: vi a1 :: vi a0 :: vr r :: st) M Q = WP d 232 0 [some (vr r), some (vi a0), some (vi a1), some (vi a2), none] [] M (fun v M' => WP (d + 1) 232 59 [l0, l1, l2, l3, l4] (psh v st) M' Q) := w_callV mC_232 d232_56 (ci := 12) rfl rfl rfl (Nat.le_of_ble_eq_true rfl) (by decide) rfl hl hk
theorem d232_59 : decode cX12_keepsBy 59 = .ok (.iconst 3, 1) := by decide +kernel
theorem k232_59 {d : Nat} {l0 l1 l2 l3 l4 : Option PV} {st : List PV} {M : Mem} {Q : Option PV → Mem → Prop} : WP d 232 59 [l0, l1, l2, l3, l4] (st) M Q = WP d 232 60 [l0, l1, l2, l3, l4] (vi 3 :: st) M Q := w_iconst mC_232 d232_59 (by decide)
theorem d232_60 : decode cX12_keepsBy 60 = .ok (.imul, 1) := by decide +kernel
theorem k232_60 {d : Nat} {l0 l1 l2 l3 l4 : Option PV} {st : List PV} {M : Mem} {Q : Option PV → Mem → Prop} {x y : Int32} : WP d 232 60 [l0, l1, l2, l3, l4] (vi y :: vi x :: st) M Q = WP d 232 61 [l0, l1, l2, l3, l4] (vi (x * y) :: st) M Q := w1 mC_232 d232_60 rfl rfl
theorem d232_61 : decode cX12_keepsBy 61 = .ok (.ireturn, 1) := by decide +kernel
theorem k232_61 {d : Nat} {l0 l1 l2 l3 l4 : Option PV} {M : Mem} {Q : Option PV → Mem → Prop} {x : Int32} : WP d 232 61 [l0, l1, l2, l3, l4] ([vi x]) M Q = Q (some (vi x)) M := w_iret mC_232 d232_61 rfl
theorem d232_62 : decode cX12_keepsBy 62 = .ok (.aload_n 0, 1) := by decide +kernel
theorem k232_62 {d x : Nat} {l1 l2 l3 l4 : Option PV} {st : List PV} {M : Mem} {Q : Option PV → Mem → Prop} : WP d 232 62 [some (vr x), l1, l2, l3, l4] (st) M Q = WP d 232 63 [some (vr x), l1, l2, l3, l4] (vr x :: st) M Q := w1 mC_232 d232_62 rfl rfl
theorem d232_63 : decode cX12_keepsBy 63 = .ok (.bipush 50, 2) := by decide +kernel
theorem k232_63 {d : Nat} {l0 l1 l2 l3 l4 : Option PV} {st : List PV} {M : Mem} {Q : Option PV → Mem → Prop} : WP d 232 63 [l0, l1, l2, l3, l4] (st) M Q = WP d 232 65 [l0, l1, l2, l3, l4] (vi 50 :: st) M Q := w_bipush mC_232 d232_63 (by decide)
theorem d232_65 : decode cX12_keepsBy 65 = .ok (.invokevirtual 344, 3) := by decide +kernel
theorem k232_65 {d : Nat} {l0 l1 l2 l3 l4 : Option PV} {st : List PV} {M : Mem} {Q : Option PV → Mem → Prop} {a0 : Int32} {r : Nat} (hl : szL st ≤ 8) (hk : mK M r = 12) : WP (d + 1) 232 65 [l0, l1, l2, l3, l4] (vi a0 :: vr r :: st) M Q = WP d 229 0 [some (vr r), some (vi a0)] [] M (fun v M' => WP (d + 1) 232 68 [l0, l1, l2, l3, l4] (psh v st) M' Q) := w_callV mC_232 d232_65 (ci := 12) rfl rfl rfl (Nat.le_of_ble_eq_true rfl) (by decide) rfl hl hk
theorem d232_68 : decode cX12_keepsBy 68 = .ok (.aload_n 0, 1) := by decide +kernel
theorem k232_68 {d x : Nat} {l1 l2 l3 l4 : Option PV} {st : List PV} {M : Mem} {Q : Option PV → Mem → Prop} : WP d 232 68 [some (vr x), l1, l2, l3, l4] (st) M Q = WP d 232 69 [some (vr x), l1, l2, l3, l4] (vr x :: st) M Q := w1 mC_232 d232_68 rfl rfl
theorem d232_69 : decode cX12_keepsBy 69 = .ok (.iload_n 1, 1) := by decide +kernel
theorem k232_69 {d : Nat} {x : Int32} {l0 l2 l3 l4 : Option PV} {st : List PV} {M : Mem} {Q : Option PV → Mem → Prop} : WP d 232 69 [l0, some (vi x), l2, l3, l4] (st) M Q = WP d 232 70 [l0, some (vi x), l2, l3, l4] (vi x :: st) M Q := w1 mC_232 d232_69 rfl rfl
theorem d232_70 : decode cX12_keepsBy 70 = .ok (.iconst 1, 1) := by decide +kernel
theorem k232_70 {d : Nat} {l0 l1 l2 l3 l4 : Option PV} {st : List PV} {M : Mem} {Q : Option PV → Mem → Prop} : WP d 232 70 [l0, l1, l2, l3, l4] (st) M Q = WP d 232 71 [l0, l1, l2, l3, l4] (vi 1 :: st) M Q := w_iconst mC_232 d232_70 (by decide)
theorem d232_71 : decode cX12_keepsBy 71 = .ok (.iload_n 3, 1) := by decide +kernel
theorem k232_71 {d : Nat} {x : Int32} {l0 l1 l2 l4 : Option PV} {st : List PV} {M : Mem} {Q : Option PV → Mem → Prop} : WP d 232 71 [l0, l1, l2, some (vi x), l4] (st) M Q = WP d 232 72 [l0, l1, l2, some (vi x), l4] (vi x :: st) M Q := w1 mC_232 d232_71 rfl rfl
theorem d232_72 : decode cX12_keepsBy 72 = .ok (.invokevirtual 356, 3) := by decide +kernel
theorem k232_72 {d : Nat} {l0 l1 l2 l3 l4 : Option PV} {st : List PV} {M : Mem} {Q : Option PV → Mem → Prop} {a0 a1 a2 : Int32} {r : Nat} (hl : szL st ≤ 8) (hk : mK M r = 12) : WP (d + 1) 232 72 [l0, l1, l2, l3, l4] (vi a2 :: vi a1 :: vi a0 :: vr r :: st) M Q = WP d 232 0 [some (vr r), some (vi a0), some (vi a1), some (vi a2), none] [] M (fun v M' => WP (d + 1) 232 75 [l0, l1, l2, l3, l4] (psh v st) M' Q) := w_callV mC_232 d232_72 (ci := 12) rfl rfl rfl (Nat.le_of_ble_eq_true rfl) (by decide) rfl hl hk
theorem d232_75 : decode cX12_keepsBy 75 = .ok (.istore 4, 2) := by decide +kernel
theorem k232_75 {d : Nat} {l0 l1 l2 l3 l4 : Option PV} {st : List PV} {M : Mem} {Q : Option PV → Mem → Prop} {x : Int32} : WP d 232 75 [l0, l1, l2, l3, l4] (vi x :: st) M Q = WP d 232 77 [l0, l1, l2, l3, some (vi x)] (st) M Q := w1 mC_232 d232_75 rfl rfl
theorem d232_77 : decode cX12_keepsBy 77 = .ok (.iload 4, 2) := by decide +kernel
theorem k232_77 {d : Nat} {x : Int32} {l0 l1 l2 l3 : Option PV} {st : List PV} {M : Mem} {Q : Option PV → Mem → Prop} : WP d 232 77 [l0, l1, l2, l3, some (vi x)] (st) M Q = WP d 232 79 [l0, l1, l2, l3, some (vi x)] (vi x :: st) M Q := w1 mC_232 d232_77 rfl rfl
theorem d232_79 : decode cX12_keepsBy 79 = .ok (.aload_n 0, 1) := by decide +kernel
theorem k232_79 {d x : Nat} {l1 l2 l3 l4 : Option PV} {st : List PV} {M : Mem} {Q : Option PV → Mem → Prop} : WP d 232 79 [some (vr x), l1, l2, l3, l4] (st) M Q = WP d 232 80 [some (vr x), l1, l2, l3, l4] (vr x :: st) M Q := w1 mC_232 d232_79 rfl rfl
theorem d232_80 : decode cX12_keepsBy 80 = .ok (.iload_n 1, 1) := by decide +kernel
theorem k232_80 {d : Nat} {x : Int32} {l0 l2 l3 l4 : Option PV} {st : List PV} {M : Mem} {Q : Option PV → Mem → Prop} : WP d 232 80 [l0, some (vi x), l2, l3, l4] (st) M Q = WP d 232 81 [l0, some (vi x), l2, l3, l4] (vi x :: st) M Q := w1 mC_232 d232_80 rfl rfl
theorem d232_81 : decode cX12_keepsBy 81 = .ok (.aload_n 0, 1) := by decide +kernel
theorem k232_81 {d x : Nat} {l1 l2 l3 l4 : Option PV} {st : List PV} {M : Mem} {Q : Option PV → Mem → Prop} : WP d 232 81 [some (vr x), l1, l2, l3, l4] (st) M Q = WP d 232 82 [some (vr x), l1, l2, l3, l4] (vr x :: st) M Q := w1 mC_232 d232_81 rfl rfl
theorem d232_82 : decode cX12_keepsBy 82 = .ok (.getfield 63, 3) := by decide +kernel
theorem k232_82 {d : Nat} {l0 l1 l2 l3 l4 : Option PV} {st : List PV} {M : Mem} {Q : Option PV → Mem → Prop} {r : Nat} (hk : mK M r = 12) : WP d 232 82 [l0, l1, l2, l3, l4] (vr r :: st) M Q = WP d 232 85 [l0, l1, l2, l3, l4] (vr (mR M r 32) :: st) M Q := w_getr mC_232 d232_82 fE_12_63 rfl (by rw [hk]; rfl)
theorem d232_85 : decode cX12_keepsBy 85 = .ok (.iload_n 1, 1) := by decide +kernel
theorem k232_85 {d : Nat} {x : Int32} {l0 l2 l3 l4 : Option PV} {st : List PV} {M : Mem} {Q : Option PV → Mem → Prop} : WP d 232 85 [l0, some (vi x), l2, l3, l4] (st) M Q = WP d 232 86 [l0, some (vi x), l2, l3, l4] (vi x :: st) M Q := w1 mC_232 d232_85 rfl rfl
theorem d232_86 : decode cX12_keepsBy 86 = .ok (.iaload, 1) := by decide +kernel
theorem k232_86 {d : Nat} {l0 l1 l2 l3 l4 : Option PV} {st : List PV} {M : Mem} {Q : Option PV → Mem → Prop} {r : Nat} {j : Int32} (hk : mK M r = 13) (hj : inb j (mN M r)) (h1 : r ≠ 1) : WP d 232 86 [l0, l1, l2, l3, l4] (vi j :: vr r :: st) M Q = WP d 232 87 [l0, l1, l2, l3, l4] (vi (mI M r (ix j)) :: st) M Q := w_iald mC_232 d232_86 (by decide) hk hj h1
theorem d232_87 : decode cX12_keepsBy 87 = .ok (.iconst 2, 1) := by decide +kernel
theorem k232_87 {d : Nat} {l0 l1 l2 l3 l4 : Option PV} {st : List PV} {M : Mem} {Q : Option PV → Mem → Prop} : WP d 232 87 [l0, l1, l2, l3, l4] (st) M Q = WP d 232 88 [l0, l1, l2, l3, l4] (vi 2 :: st) M Q := w_iconst mC_232 d232_87 (by decide)
theorem d232_88 : decode cX12_keepsBy 88 = .ok (.invokevirtual 347, 3) := by decide +kernel
theorem k232_88 {d : Nat} {l0 l1 l2 l3 l4 : Option PV} {st : List PV} {M : Mem} {Q : Option PV → Mem → Prop} {a0 a1 a2 : Int32} {r : Nat} (hl : szL st ≤ 8) (hk : mK M r = 12) : WP (d + 1) 232 88 [l0, l1, l2, l3, l4] (vi a2 :: vi a1 :: vi a0 :: vr r :: st) M Q = WP d 230 0 [some (vr r), some (vi a0), some (vi a1), some (vi a2)] [] M (fun v M' => WP (d + 1) 232 91 [l0, l1, l2, l3, l4] (psh v st) M' Q) := w_callV mC_232 d232_88 (ci := 12) rfl rfl rfl (Nat.le_of_ble_eq_true rfl) (by decide) rfl hl hk
theorem d232_91 : decode cX12_keepsBy 91 = .ok (.isub, 1) := by decide +kernel
theorem k232_91 {d : Nat} {l0 l1 l2 l3 l4 : Option PV} {st : List PV} {M : Mem} {Q : Option PV → Mem → Prop} {x y : Int32} : WP d 232 91 [l0, l1, l2, l3, l4] (vi y :: vi x :: st) M Q = WP d 232 92 [l0, l1, l2, l3, l4] (vi (x - y) :: st) M Q := w1 mC_232 d232_91 rfl rfl
theorem d232_92 : decode cX12_keepsBy 92 = .ok (.ireturn, 1) := by decide +kernel
theorem k232_92 {d : Nat} {l0 l1 l2 l3 l4 : Option PV} {M : Mem} {Q : Option PV → Mem → Prop} {x : Int32} : WP d 232 92 [l0, l1, l2, l3, l4] ([vi x]) M Q = Q (some (vi x)) M := w_iret mC_232 d232_92 rfl
theorem d232_93 : decode cX12_keepsBy 93 = .ok (.aload_n 0, 1) := by decide +kernel
theorem k232_93 {d x : Nat} {l1 l2 l3 l4 : Option PV} {st : List PV} {M : Mem} {Q : Option PV → Mem → Prop} : WP d 232 93 [some (vr x), l1, l2, l3, l4] (st) M Q = WP d 232 94 [some (vr x), l1, l2, l3, l4] (vr x :: st) M Q := w1 mC_232 d232_93 rfl rfl
theorem d232_94 : decode cX12_keepsBy 94 = .ok (.iload_n 1, 1) := by decide +kernel
theorem k232_94 {d : Nat} {x : Int32} {l0 l2 l3 l4 : Option PV} {st : List PV} {M : Mem} {Q : Option PV → Mem → Prop} : WP d 232 94 [l0, some (vi x), l2, l3, l4] (st) M Q = WP d 232 95 [l0, some (vi x), l2, l3, l4] (vi x :: st) M Q := w1 mC_232 d232_94 rfl rfl
theorem d232_95 : decode cX12_keepsBy 95 = .ok (.iload_n 2, 1) := by decide +kernel
theorem k232_95 {d : Nat} {x : Int32} {l0 l1 l3 l4 : Option PV} {st : List PV} {M : Mem} {Q : Option PV → Mem → Prop} : WP d 232 95 [l0, l1, some (vi x), l3, l4] (st) M Q = WP d 232 96 [l0, l1, some (vi x), l3, l4] (vi x :: st) M Q := w1 mC_232 d232_95 rfl rfl
theorem d232_96 : decode cX12_keepsBy 96 = .ok (.invokestatic 350, 3) := by decide +kernel
theorem k232_96 {d : Nat} {l0 l1 l2 l3 l4 : Option PV} {st : List PV} {M : Mem} {Q : Option PV → Mem → Prop} {a0 : Int32} (hl : szL st ≤ 8) : WP (d + 1) 232 96 [l0, l1, l2, l3, l4] (vi a0 :: st) M Q = WP d 228 0 [some (vi a0)] [] M (fun v M' => WP (d + 1) 232 99 [l0, l1, l2, l3, l4] (psh v st) M' Q) := w_callS mC_232 d232_96 rfl rfl (Nat.le_of_ble_eq_true rfl) (by decide) rfl hl
theorem d232_99 : decode cX12_keepsBy 99 = .ok (.iload_n 3, 1) := by decide +kernel
theorem k232_99 {d : Nat} {x : Int32} {l0 l1 l2 l4 : Option PV} {st : List PV} {M : Mem} {Q : Option PV → Mem → Prop} : WP d 232 99 [l0, l1, l2, some (vi x), l4] (st) M Q = WP d 232 100 [l0, l1, l2, some (vi x), l4] (vi x :: st) M Q := w1 mC_232 d232_99 rfl rfl
theorem d232_100 : decode cX12_keepsBy 100 = .ok (.invokevirtual 356, 3) := by decide +kernel
theorem k232_100 {d : Nat} {l0 l1 l2 l3 l4 : Option PV} {st : List PV} {M : Mem} {Q : Option PV → Mem → Prop} {a0 a1 a2 : Int32} {r : Nat} (hl : szL st ≤ 8) (hk : mK M r = 12) : WP (d + 1) 232 100 [l0, l1, l2, l3, l4] (vi a2 :: vi a1 :: vi a0 :: vr r :: st) M Q = WP d 232 0 [some (vr r), some (vi a0), some (vi a1), some (vi a2), none] [] M (fun v M' => WP (d + 1) 232 103 [l0, l1, l2, l3, l4] (psh v st) M' Q) := w_callV mC_232 d232_100 (ci := 12) rfl rfl rfl (Nat.le_of_ble_eq_true rfl) (by decide) rfl hl hk
theorem d232_103 : decode cX12_keepsBy 103 = .ok (.ireturn, 1) := by decide +kernel
theorem k232_103 {d : Nat} {l0 l1 l2 l3 l4 : Option PV} {M : Mem} {Q : Option PV → Mem → Prop} {x : Int32} : WP d 232 103 [l0, l1, l2, l3, l4] ([vi x]) M Q = Q (some (vi x)) M := w_iret mC_232 d232_103 rfl
theorem d233_0 : decode cX12_tells 0 = .ok (.iload_n 2, 1) := by decide +kernel
theorem k233_0 {d : Nat} {x : Int32} {l0 l1 l3 l4 : Option PV} {st : List PV} {M : Mem} {Q : Option PV → Mem → Prop} : WP d 233 0 [l0, l1, some (vi x), l3, l4] (st) M Q = WP d 233 1 [l0, l1, some (vi x), l3, l4] (vi x :: st) M Q := w1 mC_233 d233_0 rfl rfl
theorem d233_1 : decode cX12_tells 1 = .ok (.lookupswitch 102 #[(0, 35), (5, 70), (7, 86)], 35) := by decide +kernel
theorem k233_1c0 {d : Nat} {l0 l1 l2 l3 l4 : Option PV} {st : List PV} {M : Mem} {Q : Option PV → Mem → Prop} : WP d 233 1 [l0, l1, l2, l3, l4] (vi 0 :: st) M Q = WP d 233 36 [l0, l1, l2, l3, l4] (st) M Q := w_lsw mC_233 d233_1 (by decide +kernel)
theorem k233_1c5 {d : Nat} {l0 l1 l2 l3 l4 : Option PV} {st : List PV} {M : Mem} {Q : Option PV → Mem → Prop} : WP d 233 1 [l0, l1, l2, l3, l4] (vi 5 :: st) M Q = WP d 233 71 [l0, l1, l2, l3, l4] (st) M Q := w_lsw mC_233 d233_1 (by decide +kernel)
theorem k233_1c7 {d : Nat} {l0 l1 l2 l3 l4 : Option PV} {st : List PV} {M : Mem} {Q : Option PV → Mem → Prop} : WP d 233 1 [l0, l1, l2, l3, l4] (vi 7 :: st) M Q = WP d 233 87 [l0, l1, l2, l3, l4] (st) M Q := w_lsw mC_233 d233_1 (by decide +kernel)
theorem k233_1 {d : Nat} {l0 l1 l2 l3 l4 : Option PV} {st : List PV} {M : Mem} {Q : Option PV → Mem → Prop} {x : Int32} (h0 : x ≠ 0) (h1 : x ≠ 5) (h2 : x ≠ 7) : WP d 233 1 [l0, l1, l2, l3, l4] (vi x :: st) M Q = WP d 233 103 [l0, l1, l2, l3, l4] (st) M Q := w_lsw mC_233 d233_1 (by unfold lswt; rw [if_pos (by decide)]; rw [lv_osw h0 (by decide)]; rw [lv_osw h1 (by decide)]; rw [lv_osw h2 (by decide)]; exact (by decide : tgt 1 102 = some 103))
theorem d233_36 : decode cX12_tells 36 = .ok (.aload_n 0, 1) := by decide +kernel
theorem k233_36 {d x : Nat} {l1 l2 l3 l4 : Option PV} {st : List PV} {M : Mem} {Q : Option PV → Mem → Prop} : WP d 233 36 [some (vr x), l1, l2, l3, l4] (st) M Q = WP d 233 37 [some (vr x), l1, l2, l3, l4] (vr x :: st) M Q := w1 mC_233 d233_36 rfl rfl
theorem d233_37 : decode cX12_tells 37 = .ok (.iconst 2, 1) := by decide +kernel
theorem k233_37 {d : Nat} {l0 l1 l2 l3 l4 : Option PV} {st : List PV} {M : Mem} {Q : Option PV → Mem → Prop} : WP d 233 37 [l0, l1, l2, l3, l4] (st) M Q = WP d 233 38 [l0, l1, l2, l3, l4] (vi 2 :: st) M Q := w_iconst mC_233 d233_37 (by decide)
theorem d233_38 : decode cX12_tells 38 = .ok (.invokevirtual 344, 3) := by decide +kernel
theorem k233_38 {d : Nat} {l0 l1 l2 l3 l4 : Option PV} {st : List PV} {M : Mem} {Q : Option PV → Mem → Prop} {a0 : Int32} {r : Nat} (hl : szL st ≤ 8) (hk : mK M r = 12) : WP (d + 1) 233 38 [l0, l1, l2, l3, l4] (vi a0 :: vr r :: st) M Q = WP d 229 0 [some (vr r), some (vi a0)] [] M (fun v M' => WP (d + 1) 233 41 [l0, l1, l2, l3, l4] (psh v st) M' Q) := w_callV mC_233 d233_38 (ci := 12) rfl rfl rfl (Nat.le_of_ble_eq_true rfl) (by decide) rfl hl hk
theorem d233_41 : decode cX12_tells 41 = .ok (.aload_n 0, 1) := by decide +kernel
theorem k233_41 {d x : Nat} {l1 l2 l3 l4 : Option PV} {st : List PV} {M : Mem} {Q : Option PV → Mem → Prop} : WP d 233 41 [some (vr x), l1, l2, l3, l4] (st) M Q = WP d 233 42 [some (vr x), l1, l2, l3, l4] (vr x :: st) M Q := w1 mC_233 d233_41 rfl rfl
theorem d233_42 : decode cX12_tells 42 = .ok (.iload_n 1, 1) := by decide +kernel
theorem k233_42 {d : Nat} {x : Int32} {l0 l2 l3 l4 : Option PV} {st : List PV} {M : Mem} {Q : Option PV → Mem → Prop} : WP d 233 42 [l0, some (vi x), l2, l3, l4] (st) M Q = WP d 233 43 [l0, some (vi x), l2, l3, l4] (vi x :: st) M Q := w1 mC_233 d233_42 rfl rfl
theorem d233_43 : decode cX12_tells 43 = .ok (.aload_n 0, 1) := by decide +kernel
theorem k233_43 {d x : Nat} {l1 l2 l3 l4 : Option PV} {st : List PV} {M : Mem} {Q : Option PV → Mem → Prop} : WP d 233 43 [some (vr x), l1, l2, l3, l4] (st) M Q = WP d 233 44 [some (vr x), l1, l2, l3, l4] (vr x :: st) M Q := w1 mC_233 d233_43 rfl rfl
theorem d233_44 : decode cX12_tells 44 = .ok (.getfield 63, 3) := by decide +kernel
theorem k233_44 {d : Nat} {l0 l1 l2 l3 l4 : Option PV} {st : List PV} {M : Mem} {Q : Option PV → Mem → Prop} {r : Nat} (hk : mK M r = 12) : WP d 233 44 [l0, l1, l2, l3, l4] (vr r :: st) M Q = WP d 233 47 [l0, l1, l2, l3, l4] (vr (mR M r 32) :: st) M Q := w_getr mC_233 d233_44 fE_12_63 rfl (by rw [hk]; rfl)
theorem d233_47 : decode cX12_tells 47 = .ok (.iload_n 1, 1) := by decide +kernel
theorem k233_47 {d : Nat} {x : Int32} {l0 l2 l3 l4 : Option PV} {st : List PV} {M : Mem} {Q : Option PV → Mem → Prop} : WP d 233 47 [l0, some (vi x), l2, l3, l4] (st) M Q = WP d 233 48 [l0, some (vi x), l2, l3, l4] (vi x :: st) M Q := w1 mC_233 d233_47 rfl rfl
theorem d233_48 : decode cX12_tells 48 = .ok (.iaload, 1) := by decide +kernel
theorem k233_48 {d : Nat} {l0 l1 l2 l3 l4 : Option PV} {st : List PV} {M : Mem} {Q : Option PV → Mem → Prop} {r : Nat} {j : Int32} (hk : mK M r = 13) (hj : inb j (mN M r)) (h1 : r ≠ 1) : WP d 233 48 [l0, l1, l2, l3, l4] (vi j :: vr r :: st) M Q = WP d 233 49 [l0, l1, l2, l3, l4] (vi (mI M r (ix j)) :: st) M Q := w_iald mC_233 d233_48 (by decide) hk hj h1
theorem d233_49 : decode cX12_tells 49 = .ok (.iload_n 3, 1) := by decide +kernel
theorem k233_49 {d : Nat} {x : Int32} {l0 l1 l2 l4 : Option PV} {st : List PV} {M : Mem} {Q : Option PV → Mem → Prop} : WP d 233 49 [l0, l1, l2, some (vi x), l4] (st) M Q = WP d 233 50 [l0, l1, l2, some (vi x), l4] (vi x :: st) M Q := w1 mC_233 d233_49 rfl rfl
theorem d233_50 : decode cX12_tells 50 = .ok (.invokevirtual 353, 3) := by decide +kernel
theorem k233_50 {d : Nat} {l0 l1 l2 l3 l4 : Option PV} {st : List PV} {M : Mem} {Q : Option PV → Mem → Prop} {a0 a1 a2 : Int32} {r : Nat} (hl : szL st ≤ 8) (hk : mK M r = 12) : WP (d + 1) 233 50 [l0, l1, l2, l3, l4] (vi a2 :: vi a1 :: vi a0 :: vr r :: st) M Q = WP d 231 0 [some (vr r), some (vi a0), some (vi a1), some (vi a2), none] [] M (fun v M' => WP (d + 1) 233 53 [l0, l1, l2, l3, l4] (psh v st) M' Q) := w_callV mC_233 d233_50 (ci := 12) rfl rfl rfl (Nat.le_of_ble_eq_true rfl) (by decide) rfl hl hk
theorem d233_53 : decode cX12_tells 53 = .ok (.istore 4, 2) := by decide +kernel
theorem k233_53 {d : Nat} {l0 l1 l2 l3 l4 : Option PV} {st : List PV} {M : Mem} {Q : Option PV → Mem → Prop} {x : Int32} : WP d 233 53 [l0, l1, l2, l3, l4] (vi x :: st) M Q = WP d 233 55 [l0, l1, l2, l3, some (vi x)] (st) M Q := w1 mC_233 d233_53 rfl rfl
theorem d233_55 : decode cX12_tells 55 = .ok (.iload 4, 2) := by decide +kernel
theorem k233_55 {d : Nat} {x : Int32} {l0 l1 l2 l3 : Option PV} {st : List PV} {M : Mem} {Q : Option PV → Mem → Prop} : WP d 233 55 [l0, l1, l2, l3, some (vi x)] (st) M Q = WP d 233 57 [l0, l1, l2, l3, some (vi x)] (vi x :: st) M Q := w1 mC_233 d233_55 rfl rfl
theorem d233_57 : decode cX12_tells 57 = .ok (.aload_n 0, 1) := by decide +kernel
theorem k233_57 {d x : Nat} {l1 l2 l3 l4 : Option PV} {st : List PV} {M : Mem} {Q : Option PV → Mem → Prop} : WP d 233 57 [some (vr x), l1, l2, l3, l4] (st) M Q = WP d 233 58 [some (vr x), l1, l2, l3, l4] (vr x :: st) M Q := w1 mC_233 d233_57 rfl rfl
theorem d233_58 : decode cX12_tells 58 = .ok (.iload_n 1, 1) := by decide +kernel
theorem k233_58 {d : Nat} {x : Int32} {l0 l2 l3 l4 : Option PV} {st : List PV} {M : Mem} {Q : Option PV → Mem → Prop} : WP d 233 58 [l0, some (vi x), l2, l3, l4] (st) M Q = WP d 233 59 [l0, some (vi x), l2, l3, l4] (vi x :: st) M Q := w1 mC_233 d233_58 rfl rfl
theorem d233_59 : decode cX12_tells 59 = .ok (.aload_n 0, 1) := by decide +kernel
theorem k233_59 {d x : Nat} {l1 l2 l3 l4 : Option PV} {st : List PV} {M : Mem} {Q : Option PV → Mem → Prop} : WP d 233 59 [some (vr x), l1, l2, l3, l4] (st) M Q = WP d 233 60 [some (vr x), l1, l2, l3, l4] (vr x :: st) M Q := w1 mC_233 d233_59 rfl rfl
theorem d233_60 : decode cX12_tells 60 = .ok (.getfield 63, 3) := by decide +kernel
theorem k233_60 {d : Nat} {l0 l1 l2 l3 l4 : Option PV} {st : List PV} {M : Mem} {Q : Option PV → Mem → Prop} {r : Nat} (hk : mK M r = 12) : WP d 233 60 [l0, l1, l2, l3, l4] (vr r :: st) M Q = WP d 233 63 [l0, l1, l2, l3, l4] (vr (mR M r 32) :: st) M Q := w_getr mC_233 d233_60 fE_12_63 rfl (by rw [hk]; rfl)
theorem d233_63 : decode cX12_tells 63 = .ok (.iload_n 1, 1) := by decide +kernel
theorem k233_63 {d : Nat} {x : Int32} {l0 l2 l3 l4 : Option PV} {st : List PV} {M : Mem} {Q : Option PV → Mem → Prop} : WP d 233 63 [l0, some (vi x), l2, l3, l4] (st) M Q = WP d 233 64 [l0, some (vi x), l2, l3, l4] (vi x :: st) M Q := w1 mC_233 d233_63 rfl rfl
theorem d233_64 : decode cX12_tells 64 = .ok (.iaload, 1) := by decide +kernel
theorem k233_64 {d : Nat} {l0 l1 l2 l3 l4 : Option PV} {st : List PV} {M : Mem} {Q : Option PV → Mem → Prop} {r : Nat} {j : Int32} (hk : mK M r = 13) (hj : inb j (mN M r)) (h1 : r ≠ 1) : WP d 233 64 [l0, l1, l2, l3, l4] (vi j :: vr r :: st) M Q = WP d 233 65 [l0, l1, l2, l3, l4] (vi (mI M r (ix j)) :: st) M Q := w_iald mC_233 d233_64 (by decide) hk hj h1
theorem d233_65 : decode cX12_tells 65 = .ok (.iconst 1, 1) := by decide +kernel
theorem k233_65 {d : Nat} {l0 l1 l2 l3 l4 : Option PV} {st : List PV} {M : Mem} {Q : Option PV → Mem → Prop} : WP d 233 65 [l0, l1, l2, l3, l4] (st) M Q = WP d 233 66 [l0, l1, l2, l3, l4] (vi 1 :: st) M Q := w_iconst mC_233 d233_65 (by decide)
theorem d233_66 : decode cX12_tells 66 = .ok (.invokevirtual 356, 3) := by decide +kernel
theorem k233_66 {d : Nat} {l0 l1 l2 l3 l4 : Option PV} {st : List PV} {M : Mem} {Q : Option PV → Mem → Prop} {a0 a1 a2 : Int32} {r : Nat} (hl : szL st ≤ 8) (hk : mK M r = 12) : WP (d + 1) 233 66 [l0, l1, l2, l3, l4] (vi a2 :: vi a1 :: vi a0 :: vr r :: st) M Q = WP d 232 0 [some (vr r), some (vi a0), some (vi a1), some (vi a2), none] [] M (fun v M' => WP (d + 1) 233 69 [l0, l1, l2, l3, l4] (psh v st) M' Q) := w_callV mC_233 d233_66 (ci := 12) rfl rfl rfl (Nat.le_of_ble_eq_true rfl) (by decide) rfl hl hk
theorem d233_69 : decode cX12_tells 69 = .ok (.isub, 1) := by decide +kernel
theorem k233_69 {d : Nat} {l0 l1 l2 l3 l4 : Option PV} {st : List PV} {M : Mem} {Q : Option PV → Mem → Prop} {x y : Int32} : WP d 233 69 [l0, l1, l2, l3, l4] (vi y :: vi x :: st) M Q = WP d 233 70 [l0, l1, l2, l3, l4] (vi (x - y) :: st) M Q := w1 mC_233 d233_69 rfl rfl
theorem d233_70 : decode cX12_tells 70 = .ok (.ireturn, 1) := by decide +kernel
theorem k233_70 {d : Nat} {l0 l1 l2 l3 l4 : Option PV} {M : Mem} {Q : Option PV → Mem → Prop} {x : Int32} : WP d 233 70 [l0, l1, l2, l3, l4] ([vi x]) M Q = Q (some (vi x)) M := w_iret mC_233 d233_70 rfl
theorem d233_71 : decode cX12_tells 71 = .ok (.aload_n 0, 1) := by decide +kernel
theorem k233_71 {d x : Nat} {l1 l2 l3 l4 : Option PV} {st : List PV} {M : Mem} {Q : Option PV → Mem → Prop} : WP d 233 71 [some (vr x), l1, l2, l3, l4] (st) M Q = WP d 233 72 [some (vr x), l1, l2, l3, l4] (vr x :: st) M Q := w1 mC_233 d233_71 rfl rfl
theorem d233_72 : decode cX12_tells 72 = .ok (.bipush 60, 2) := by decide +kernel
theorem k233_72 {d : Nat} {l0 l1 l2 l3 l4 : Option PV} {st : List PV} {M : Mem} {Q : Option PV → Mem → Prop} : WP d 233 72 [l0, l1, l2, l3, l4] (st) M Q = WP d 233 74 [l0, l1, l2, l3, l4] (vi 60 :: st) M Q := w_bipush mC_233 d233_72 (by decide)
theorem d233_74 : decode cX12_tells 74 = .ok (.invokevirtual 344, 3) := by decide +kernel
theorem k233_74 {d : Nat} {l0 l1 l2 l3 l4 : Option PV} {st : List PV} {M : Mem} {Q : Option PV → Mem → Prop} {a0 : Int32} {r : Nat} (hl : szL st ≤ 8) (hk : mK M r = 12) : WP (d + 1) 233 74 [l0, l1, l2, l3, l4] (vi a0 :: vr r :: st) M Q = WP d 229 0 [some (vr r), some (vi a0)] [] M (fun v M' => WP (d + 1) 233 77 [l0, l1, l2, l3, l4] (psh v st) M' Q) := w_callV mC_233 d233_74 (ci := 12) rfl rfl rfl (Nat.le_of_ble_eq_true rfl) (by decide) rfl hl hk
theorem d233_77 : decode cX12_tells 77 = .ok (.aload_n 0, 1) := by decide +kernel
theorem k233_77 {d x : Nat} {l1 l2 l3 l4 : Option PV} {st : List PV} {M : Mem} {Q : Option PV → Mem → Prop} : WP d 233 77 [some (vr x), l1, l2, l3, l4] (st) M Q = WP d 233 78 [some (vr x), l1, l2, l3, l4] (vr x :: st) M Q := w1 mC_233 d233_77 rfl rfl
theorem d233_78 : decode cX12_tells 78 = .ok (.iload_n 1, 1) := by decide +kernel
theorem k233_78 {d : Nat} {x : Int32} {l0 l2 l3 l4 : Option PV} {st : List PV} {M : Mem} {Q : Option PV → Mem → Prop} : WP d 233 78 [l0, some (vi x), l2, l3, l4] (st) M Q = WP d 233 79 [l0, some (vi x), l2, l3, l4] (vi x :: st) M Q := w1 mC_233 d233_78 rfl rfl
theorem d233_79 : decode cX12_tells 79 = .ok (.iconst 3, 1) := by decide +kernel
theorem k233_79 {d : Nat} {l0 l1 l2 l3 l4 : Option PV} {st : List PV} {M : Mem} {Q : Option PV → Mem → Prop} : WP d 233 79 [l0, l1, l2, l3, l4] (st) M Q = WP d 233 80 [l0, l1, l2, l3, l4] (vi 3 :: st) M Q := w_iconst mC_233 d233_79 (by decide)
theorem d233_80 : decode cX12_tells 80 = .ok (.iload_n 3, 1) := by decide +kernel
theorem k233_80 {d : Nat} {x : Int32} {l0 l1 l2 l4 : Option PV} {st : List PV} {M : Mem} {Q : Option PV → Mem → Prop} : WP d 233 80 [l0, l1, l2, some (vi x), l4] (st) M Q = WP d 233 81 [l0, l1, l2, some (vi x), l4] (vi x :: st) M Q := w1 mC_233 d233_80 rfl rfl
theorem d233_81 : decode cX12_tells 81 = .ok (.invokevirtual 359, 3) := by decide +kernel
theorem k233_81 {d : Nat} {l0 l1 l2 l3 l4 : Option PV} {st : List PV} {M : Mem} {Q : Option PV → Mem → Prop} {a0 a1 a2 : Int32} {r : Nat} (hl : szL st ≤ 8) (hk : mK M r = 12) : WP (d + 1) 233 81 [l0, l1, l2, l3, l4] (vi a2 :: vi a1 :: vi a0 :: vr r :: st) M Q = WP d 233 0 [some (vr r), some (vi a0), some (vi a1), some (vi a2), none] [] M (fun v M' => WP (d + 1) 233 84 [l0, l1, l2, l3, l4] (psh v st) M' Q) := w_callV mC_233 d233_81 (ci := 12) rfl rfl rfl (Nat.le_of_ble_eq_true rfl) (by decide) rfl hl hk
theorem d233_84 : decode cX12_tells 84 = .ok (.iconst 5, 1) := by decide +kernel
theorem k233_84 {d : Nat} {l0 l1 l2 l3 l4 : Option PV} {st : List PV} {M : Mem} {Q : Option PV → Mem → Prop} : WP d 233 84 [l0, l1, l2, l3, l4] (st) M Q = WP d 233 85 [l0, l1, l2, l3, l4] (vi 5 :: st) M Q := w_iconst mC_233 d233_84 (by decide)
theorem d233_85 : decode cX12_tells 85 = .ok (.ixor, 1) := by decide +kernel
theorem k233_85 {d : Nat} {l0 l1 l2 l3 l4 : Option PV} {st : List PV} {M : Mem} {Q : Option PV → Mem → Prop} {x y : Int32} : WP d 233 85 [l0, l1, l2, l3, l4] (vi y :: vi x :: st) M Q = WP d 233 86 [l0, l1, l2, l3, l4] (vi (x ^^^ y) :: st) M Q := w1 mC_233 d233_85 rfl rfl
theorem d233_86 : decode cX12_tells 86 = .ok (.ireturn, 1) := by decide +kernel
theorem k233_86 {d : Nat} {l0 l1 l2 l3 l4 : Option PV} {M : Mem} {Q : Option PV → Mem → Prop} {x : Int32} : WP d 233 86 [l0, l1, l2, l3, l4] ([vi x]) M Q = Q (some (vi x)) M := w_iret mC_233 d233_86 rfl
theorem d233_87 : decode cX12_tells 87 = .ok (.aload_n 0, 1) := by decide +kernel
theorem k233_87 {d x : Nat} {l1 l2 l3 l4 : Option PV} {st : List PV} {M : Mem} {Q : Option PV → Mem → Prop} : WP d 233 87 [some (vr x), l1, l2, l3, l4] (st) M Q = WP d 233 88 [some (vr x), l1, l2, l3, l4] (vr x :: st) M Q := w1 mC_233 d233_87 rfl rfl
theorem d233_88 : decode cX12_tells 88 = .ok (.bipush 81, 2) := by decide +kernel
theorem k233_88 {d : Nat} {l0 l1 l2 l3 l4 : Option PV} {st : List PV} {M : Mem} {Q : Option PV → Mem → Prop} : WP d 233 88 [l0, l1, l2, l3, l4] (st) M Q = WP d 233 90 [l0, l1, l2, l3, l4] (vi 81 :: st) M Q := w_bipush mC_233 d233_88 (by decide)
theorem d233_90 : decode cX12_tells 90 = .ok (.invokevirtual 344, 3) := by decide +kernel
theorem k233_90 {d : Nat} {l0 l1 l2 l3 l4 : Option PV} {st : List PV} {M : Mem} {Q : Option PV → Mem → Prop} {a0 : Int32} {r : Nat} (hl : szL st ≤ 8) (hk : mK M r = 12) : WP (d + 1) 233 90 [l0, l1, l2, l3, l4] (vi a0 :: vr r :: st) M Q = WP d 229 0 [some (vr r), some (vi a0)] [] M (fun v M' => WP (d + 1) 233 93 [l0, l1, l2, l3, l4] (psh v st) M' Q) := w_callV mC_233 d233_90 (ci := 12) rfl rfl rfl (Nat.le_of_ble_eq_true rfl) (by decide) rfl hl hk
theorem d233_93 : decode cX12_tells 93 = .ok (.aload_n 0, 1) := by decide +kernel
theorem k233_93 {d x : Nat} {l1 l2 l3 l4 : Option PV} {st : List PV} {M : Mem} {Q : Option PV → Mem → Prop} : WP d 233 93 [some (vr x), l1, l2, l3, l4] (st) M Q = WP d 233 94 [some (vr x), l1, l2, l3, l4] (vr x :: st) M Q := w1 mC_233 d233_93 rfl rfl
theorem d233_94 : decode cX12_tells 94 = .ok (.iload_n 1, 1) := by decide +kernel
theorem k233_94 {d : Nat} {x : Int32} {l0 l2 l3 l4 : Option PV} {st : List PV} {M : Mem} {Q : Option PV → Mem → Prop} : WP d 233 94 [l0, some (vi x), l2, l3, l4] (st) M Q = WP d 233 95 [l0, some (vi x), l2, l3, l4] (vi x :: st) M Q := w1 mC_233 d233_94 rfl rfl
theorem d233_95 : decode cX12_tells 95 = .ok (.iconst 4, 1) := by decide +kernel
theorem k233_95 {d : Nat} {l0 l1 l2 l3 l4 : Option PV} {st : List PV} {M : Mem} {Q : Option PV → Mem → Prop} : WP d 233 95 [l0, l1, l2, l3, l4] (st) M Q = WP d 233 96 [l0, l1, l2, l3, l4] (vi 4 :: st) M Q := w_iconst mC_233 d233_95 (by decide)
theorem d233_96 : decode cX12_tells 96 = .ok (.iload_n 3, 1) := by decide +kernel
theorem k233_96 {d : Nat} {x : Int32} {l0 l1 l2 l4 : Option PV} {st : List PV} {M : Mem} {Q : Option PV → Mem → Prop} : WP d 233 96 [l0, l1, l2, some (vi x), l4] (st) M Q = WP d 233 97 [l0, l1, l2, some (vi x), l4] (vi x :: st) M Q := w1 mC_233 d233_96 rfl rfl
theorem d233_97 : decode cX12_tells 97 = .ok (.invokevirtual 359, 3) := by decide +kernel
theorem k233_97 {d : Nat} {l0 l1 l2 l3 l4 : Option PV} {st : List PV} {M : Mem} {Q : Option PV → Mem → Prop} {a0 a1 a2 : Int32} {r : Nat} (hl : szL st ≤ 8) (hk : mK M r = 12) : WP (d + 1) 233 97 [l0, l1, l2, l3, l4] (vi a2 :: vi a1 :: vi a0 :: vr r :: st) M Q = WP d 233 0 [some (vr r), some (vi a0), some (vi a1), some (vi a2), none] [] M (fun v M' => WP (d + 1) 233 100 [l0, l1, l2, l3, l4] (psh v st) M' Q) := w_callV mC_233 d233_97 (ci := 12) rfl rfl rfl (Nat.le_of_ble_eq_true rfl) (by decide) rfl hl hk
theorem d233_100 : decode cX12_tells 100 = .ok (.iconst 1, 1) := by decide +kernel
theorem k233_100 {d : Nat} {l0 l1 l2 l3 l4 : Option PV} {st : List PV} {M : Mem} {Q : Option PV → Mem → Prop} : WP d 233 100 [l0, l1, l2, l3, l4] (st) M Q = WP d 233 101 [l0, l1, l2, l3, l4] (vi 1 :: st) M Q := w_iconst mC_233 d233_100 (by decide)
theorem d233_101 : decode cX12_tells 101 = .ok (.isub, 1) := by decide +kernel
theorem k233_101 {d : Nat} {l0 l1 l2 l3 l4 : Option PV} {st : List PV} {M : Mem} {Q : Option PV → Mem → Prop} {x y : Int32} : WP d 233 101 [l0, l1, l2, l3, l4] (vi y :: vi x :: st) M Q = WP d 233 102 [l0, l1, l2, l3, l4] (vi (x - y) :: st) M Q := w1 mC_233 d233_101 rfl rfl
theorem d233_102 : decode cX12_tells 102 = .ok (.ireturn, 1) := by decide +kernel
theorem k233_102 {d : Nat} {l0 l1 l2 l3 l4 : Option PV} {M : Mem} {Q : Option PV → Mem → Prop} {x : Int32} : WP d 233 102 [l0, l1, l2, l3, l4] ([vi x]) M Q = Q (some (vi x)) M := w_iret mC_233 d233_102 rfl
theorem d233_103 : decode cX12_tells 103 = .ok (.aload_n 0, 1) := by decide +kernel
theorem k233_103 {d x : Nat} {l1 l2 l3 l4 : Option PV} {st : List PV} {M : Mem} {Q : Option PV → Mem → Prop} : WP d 233 103 [some (vr x), l1, l2, l3, l4] (st) M Q = WP d 233 104 [some (vr x), l1, l2, l3, l4] (vr x :: st) M Q := w1 mC_233 d233_103 rfl rfl
theorem d233_104 : decode cX12_tells 104 = .ok (.iload_n 1, 1) := by decide +kernel
theorem k233_104 {d : Nat} {x : Int32} {l0 l2 l3 l4 : Option PV} {st : List PV} {M : Mem} {Q : Option PV → Mem → Prop} : WP d 233 104 [l0, some (vi x), l2, l3, l4] (st) M Q = WP d 233 105 [l0, some (vi x), l2, l3, l4] (vi x :: st) M Q := w1 mC_233 d233_104 rfl rfl
theorem d233_105 : decode cX12_tells 105 = .ok (.iload_n 2, 1) := by decide +kernel
theorem k233_105 {d : Nat} {x : Int32} {l0 l1 l3 l4 : Option PV} {st : List PV} {M : Mem} {Q : Option PV → Mem → Prop} : WP d 233 105 [l0, l1, some (vi x), l3, l4] (st) M Q = WP d 233 106 [l0, l1, some (vi x), l3, l4] (vi x :: st) M Q := w1 mC_233 d233_105 rfl rfl
theorem d233_106 : decode cX12_tells 106 = .ok (.invokestatic 350, 3) := by decide +kernel
theorem k233_106 {d : Nat} {l0 l1 l2 l3 l4 : Option PV} {st : List PV} {M : Mem} {Q : Option PV → Mem → Prop} {a0 : Int32} (hl : szL st ≤ 8) : WP (d + 1) 233 106 [l0, l1, l2, l3, l4] (vi a0 :: st) M Q = WP d 228 0 [some (vi a0)] [] M (fun v M' => WP (d + 1) 233 109 [l0, l1, l2, l3, l4] (psh v st) M' Q) := w_callS mC_233 d233_106 rfl rfl (Nat.le_of_ble_eq_true rfl) (by decide) rfl hl
theorem d233_109 : decode cX12_tells 109 = .ok (.iload_n 3, 1) := by decide +kernel
theorem k233_109 {d : Nat} {x : Int32} {l0 l1 l2 l4 : Option PV} {st : List PV} {M : Mem} {Q : Option PV → Mem → Prop} : WP d 233 109 [l0, l1, l2, some (vi x), l4] (st) M Q = WP d 233 110 [l0, l1, l2, some (vi x), l4] (vi x :: st) M Q := w1 mC_233 d233_109 rfl rfl
theorem d233_110 : decode cX12_tells 110 = .ok (.invokevirtual 359, 3) := by decide +kernel
theorem k233_110 {d : Nat} {l0 l1 l2 l3 l4 : Option PV} {st : List PV} {M : Mem} {Q : Option PV → Mem → Prop} {a0 a1 a2 : Int32} {r : Nat} (hl : szL st ≤ 8) (hk : mK M r = 12) : WP (d + 1) 233 110 [l0, l1, l2, l3, l4] (vi a2 :: vi a1 :: vi a0 :: vr r :: st) M Q = WP d 233 0 [some (vr r), some (vi a0), some (vi a1), some (vi a2), none] [] M (fun v M' => WP (d + 1) 233 113 [l0, l1, l2, l3, l4] (psh v st) M' Q) := w_callV mC_233 d233_110 (ci := 12) rfl rfl rfl (Nat.le_of_ble_eq_true rfl) (by decide) rfl hl hk
theorem d233_113 : decode cX12_tells 113 = .ok (.ireturn, 1) := by decide +kernel
theorem k233_113 {d : Nat} {l0 l1 l2 l3 l4 : Option PV} {M : Mem} {Q : Option PV → Mem → Prop} {x : Int32} : WP d 233 113 [l0, l1, l2, l3, l4] ([vi x]) M Q = Q (some (vi x)) M := w_iret mC_233 d233_113 rfl
theorem d234_0 : decode cX12_body 0 = .ok (.iload_n 1, 1) := by decide +kernel
theorem k234_0 {d : Nat} {x : Int32} {l0 : Option PV} {st : List PV} {M : Mem} {Q : Option PV → Mem → Prop} : WP d 234 0 [l0, some (vi x)] (st) M Q = WP d 234 1 [l0, some (vi x)] (vi x :: st) M Q := w1 mC_234 d234_0 rfl rfl
theorem d234_1 : decode cX12_body 1 = .ok (.iconst 0, 1) := by decide +kernel
theorem k234_1 {d : Nat} {l0 l1 : Option PV} {st : List PV} {M : Mem} {Q : Option PV → Mem → Prop} : WP d 234 1 [l0, l1] (st) M Q = WP d 234 2 [l0, l1] (vi 0 :: st) M Q := w_iconst mC_234 d234_1 (by decide)
theorem d234_2 : decode cX12_body 2 = .ok (.bipush 7, 2) := by decide +kernel
theorem k234_2 {d : Nat} {l0 l1 : Option PV} {st : List PV} {M : Mem} {Q : Option PV → Mem → Prop} : WP d 234 2 [l0, l1] (st) M Q = WP d 234 4 [l0, l1] (vi 7 :: st) M Q := w_bipush mC_234 d234_2 (by decide)
theorem d234_4 : decode cX12_body 4 = .ok (.invokestatic 104, 3) := by decide +kernel
theorem k234_4 {d : Nat} {l0 l1 : Option PV} {st : List PV} {M : Mem} {Q : Option PV → Mem → Prop} {a0 a1 a2 : Int32} (hl : szL st ≤ 8) : WP (d + 1) 234 4 [l0, l1] (vi a2 :: vi a1 :: vi a0 :: st) M Q = WP d 145 0 [some (vi a0), some (vi a1), some (vi a2)] [] M (fun v M' => WP (d + 1) 234 7 [l0, l1] (psh v st) M' Q) := w_callS mC_234 d234_4 rfl rfl (Nat.le_of_ble_eq_true rfl) (by decide) rfl hl
theorem d234_7 : decode cX12_body 7 = .ok (.ifCond .ne 5, 3) := by decide +kernel
theorem k234_7 {d : Nat} {l0 l1 : Option PV} {st : List PV} {M : Mem} {Q : Option PV → Mem → Prop} {x : Int32} : WP d 234 7 [l0, l1] (vi x :: st) M Q = (if x = 0 then WP d 234 10 [l0, l1] (st) M Q else WP d 234 12 [l0, l1] (st) M Q) := w_if_ne mC_234 d234_7 (by decide)
theorem d234_10 : decode cX12_body 10 = .ok (.iconst (-1), 1) := by decide +kernel
theorem k234_10 {d : Nat} {l0 l1 : Option PV} {st : List PV} {M : Mem} {Q : Option PV → Mem → Prop} : WP d 234 10 [l0, l1] (st) M Q = WP d 234 11 [l0, l1] (vi (-1) :: st) M Q := w_iconst mC_234 d234_10 (by decide)
theorem d234_11 : decode cX12_body 11 = .ok (.ireturn, 1) := by decide +kernel
theorem k234_11 {d : Nat} {l0 l1 : Option PV} {M : Mem} {Q : Option PV → Mem → Prop} {x : Int32} : WP d 234 11 [l0, l1] ([vi x]) M Q = Q (some (vi x)) M := w_iret mC_234 d234_11 rfl
theorem d234_12 : decode cX12_body 12 = .ok (.aload_n 0, 1) := by decide +kernel
theorem k234_12 {d x : Nat} {l1 : Option PV} {st : List PV} {M : Mem} {Q : Option PV → Mem → Prop} : WP d 234 12 [some (vr x), l1] (st) M Q = WP d 234 13 [some (vr x), l1] (vr x :: st) M Q := w1 mC_234 d234_12 rfl rfl
theorem d234_13 : decode cX12_body 13 = .ok (.getfield 362, 3) := by decide +kernel
theorem k234_13 {d : Nat} {l0 l1 : Option PV} {st : List PV} {M : Mem} {Q : Option PV → Mem → Prop} {r : Nat} (hk : mK M r = 12) : WP d 234 13 [l0, l1] (vr r :: st) M Q = WP d 234 16 [l0, l1] (vi (mI M r 31) :: st) M Q := w_get mC_234 d234_13 fE_12_362 rfl (by rw [hk]; rfl)
theorem d234_16 : decode cX12_body 16 = .ok (.bipush 50, 2) := by decide +kernel
theorem k234_16 {d : Nat} {l0 l1 : Option PV} {st : List PV} {M : Mem} {Q : Option PV → Mem → Prop} : WP d 234 16 [l0, l1] (st) M Q = WP d 234 18 [l0, l1] (vi 50 :: st) M Q := w_bipush mC_234 d234_16 (by decide)
theorem d234_18 : decode cX12_body 18 = .ok (.if_icmp .ne 6, 3) := by decide +kernel
theorem k234_18 {d : Nat} {l0 l1 : Option PV} {st : List PV} {M : Mem} {Q : Option PV → Mem → Prop} {x y : Int32} : WP d 234 18 [l0, l1] (vi y :: vi x :: st) M Q = (if x = y then WP d 234 21 [l0, l1] (st) M Q else WP d 234 24 [l0, l1] (st) M Q) := w_ic_ne mC_234 d234_18 (by decide)
theorem d234_21 : decode cX12_body 21 = .ok (.bipush (-3), 2) := by decide +kernel
theorem k234_21 {d : Nat} {l0 l1 : Option PV} {st : List PV} {M : Mem} {Q : Option PV → Mem → Prop} : WP d 234 21 [l0, l1] (st) M Q = WP d 234 23 [l0, l1] (vi (-3) :: st) M Q := w_bipush mC_234 d234_21 (by decide)
theorem d234_23 : decode cX12_body 23 = .ok (.ireturn, 1) := by decide +kernel
theorem k234_23 {d : Nat} {l0 l1 : Option PV} {M : Mem} {Q : Option PV → Mem → Prop} {x : Int32} : WP d 234 23 [l0, l1] ([vi x]) M Q = Q (some (vi x)) M := w_iret mC_234 d234_23 rfl
theorem d234_24 : decode cX12_body 24 = .ok (.aload_n 0, 1) := by decide +kernel
theorem k234_24 {d x : Nat} {l1 : Option PV} {st : List PV} {M : Mem} {Q : Option PV → Mem → Prop} : WP d 234 24 [some (vr x), l1] (st) M Q = WP d 234 25 [some (vr x), l1] (vr x :: st) M Q := w1 mC_234 d234_24 rfl rfl
theorem d234_25 : decode cX12_body 25 = .ok (.getfield 63, 3) := by decide +kernel
theorem k234_25 {d : Nat} {l0 l1 : Option PV} {st : List PV} {M : Mem} {Q : Option PV → Mem → Prop} {r : Nat} (hk : mK M r = 12) : WP d 234 25 [l0, l1] (vr r :: st) M Q = WP d 234 28 [l0, l1] (vr (mR M r 32) :: st) M Q := w_getr mC_234 d234_25 fE_12_63 rfl (by rw [hk]; rfl)
theorem d234_28 : decode cX12_body 28 = .ok (.aload_n 0, 1) := by decide +kernel
theorem k234_28 {d x : Nat} {l1 : Option PV} {st : List PV} {M : Mem} {Q : Option PV → Mem → Prop} : WP d 234 28 [some (vr x), l1] (st) M Q = WP d 234 29 [some (vr x), l1] (vr x :: st) M Q := w1 mC_234 d234_28 rfl rfl
theorem d234_29 : decode cX12_body 29 = .ok (.getfield 362, 3) := by decide +kernel
theorem k234_29 {d : Nat} {l0 l1 : Option PV} {st : List PV} {M : Mem} {Q : Option PV → Mem → Prop} {r : Nat} (hk : mK M r = 12) : WP d 234 29 [l0, l1] (vr r :: st) M Q = WP d 234 32 [l0, l1] (vi (mI M r 31) :: st) M Q := w_get mC_234 d234_29 fE_12_362 rfl (by rw [hk]; rfl)
theorem d234_32 : decode cX12_body 32 = .ok (.iload_n 1, 1) := by decide +kernel
theorem k234_32 {d : Nat} {x : Int32} {l0 : Option PV} {st : List PV} {M : Mem} {Q : Option PV → Mem → Prop} : WP d 234 32 [l0, some (vi x)] (st) M Q = WP d 234 33 [l0, some (vi x)] (vi x :: st) M Q := w1 mC_234 d234_32 rfl rfl
theorem d234_33 : decode cX12_body 33 = .ok (.iastore, 1) := by decide +kernel
theorem k234_33 {d : Nat} {l0 l1 : Option PV} {st : List PV} {M : Mem} {Q : Option PV → Mem → Prop} {r : Nat} {j x : Int32} (hk : mK M r = 13) (hj : inb j (mN M r)) (h1 : r ≠ 1) : WP d 234 33 [l0, l1] (vi x :: vi j :: vr r :: st) M Q = WP d 234 34 [l0, l1] (st) (sI M r (ix j) x) Q := w_iast mC_234 d234_33 hk hj h1
theorem d234_34 : decode cX12_body 34 = .ok (.aload_n 0, 1) := by decide +kernel
theorem k234_34 {d x : Nat} {l1 : Option PV} {st : List PV} {M : Mem} {Q : Option PV → Mem → Prop} : WP d 234 34 [some (vr x), l1] (st) M Q = WP d 234 35 [some (vr x), l1] (vr x :: st) M Q := w1 mC_234 d234_34 rfl rfl
theorem d234_35 : decode cX12_body 35 = .ok (.dup, 1) := by decide +kernel
theorem k234_35 {d : Nat} {l0 l1 : Option PV} {st : List PV} {M : Mem} {Q : Option PV → Mem → Prop} {x : Nat} : WP d 234 35 [l0, l1] (vr x :: st) M Q = WP d 234 36 [l0, l1] (vr x :: vr x :: st) M Q := w1 mC_234 d234_35 rfl rfl
theorem k234_35i {d : Nat} {l0 l1 : Option PV} {st : List PV} {M : Mem} {Q : Option PV → Mem → Prop} {x : Int32} : WP d 234 35 [l0, l1] (vi x :: st) M Q = WP d 234 36 [l0, l1] (vi x :: vi x :: st) M Q := w1 mC_234 d234_35 rfl rfl
theorem d234_36 : decode cX12_body 36 = .ok (.getfield 362, 3) := by decide +kernel
theorem k234_36 {d : Nat} {l0 l1 : Option PV} {st : List PV} {M : Mem} {Q : Option PV → Mem → Prop} {r : Nat} (hk : mK M r = 12) : WP d 234 36 [l0, l1] (vr r :: st) M Q = WP d 234 39 [l0, l1] (vi (mI M r 31) :: st) M Q := w_get mC_234 d234_36 fE_12_362 rfl (by rw [hk]; rfl)
theorem d234_39 : decode cX12_body 39 = .ok (.dup_x1, 1) := by decide +kernel
theorem k234_39 {d : Nat} {l0 l1 : Option PV} {st : List PV} {M : Mem} {Q : Option PV → Mem → Prop} {a : Int32} {b : Nat} : WP d 234 39 [l0, l1] (vi a :: vr b :: st) M Q = WP d 234 40 [l0, l1] (vi a :: vr b :: vi a :: st) M Q := w1 mC_234 d234_39 rfl rfl
theorem d234_40 : decode cX12_body 40 = .ok (.iconst 1, 1) := by decide +kernel
theorem k234_40 {d : Nat} {l0 l1 : Option PV} {st : List PV} {M : Mem} {Q : Option PV → Mem → Prop} : WP d 234 40 [l0, l1] (st) M Q = WP d 234 41 [l0, l1] (vi 1 :: st) M Q := w_iconst mC_234 d234_40 (by decide)
theorem d234_41 : decode cX12_body 41 = .ok (.iadd, 1) := by decide +kernel
theorem k234_41 {d : Nat} {l0 l1 : Option PV} {st : List PV} {M : Mem} {Q : Option PV → Mem → Prop} {x y : Int32} : WP d 234 41 [l0, l1] (vi y :: vi x :: st) M Q = WP d 234 42 [l0, l1] (vi (x + y) :: st) M Q := w1 mC_234 d234_41 rfl rfl
theorem d234_42 : decode cX12_body 42 = .ok (.putfield 362, 3) := by decide +kernel
theorem k234_42 {d : Nat} {l0 l1 : Option PV} {st : List PV} {M : Mem} {Q : Option PV → Mem → Prop} {r : Nat} {x : Int32} (hk : mK M r = 12) : WP d 234 42 [l0, l1] (vi x :: vr r :: st) M Q = WP d 234 45 [l0, l1] (st) (sI M r 31 x) Q := w_put mC_234 d234_42 fE_12_362 (by decide +kernel) (by rw [hk]; rfl)
theorem d234_45 : decode cX12_body 45 = .ok (.ireturn, 1) := by decide +kernel
theorem k234_45 {d : Nat} {l0 l1 : Option PV} {M : Mem} {Q : Option PV → Mem → Prop} {x : Int32} : WP d 234 45 [l0, l1] ([vi x]) M Q = Q (some (vi x)) M := w_iret mC_234 d234_45 rfl
theorem d235_0 : decode cX12_act 0 = .ok (.aload_n 0, 1) := by decide +kernel
theorem k235_0 {d x : Nat} {l1 l2 l3 l4 : Option PV} {st : List PV} {M : Mem} {Q : Option PV → Mem → Prop} : WP d 235 0 [some (vr x), l1, l2, l3, l4] (st) M Q = WP d 235 1 [some (vr x), l1, l2, l3, l4] (vr x :: st) M Q := w1 mC_235 d235_0 rfl rfl
theorem d235_1 : decode cX12_act 1 = .ok (.iconst 0, 1) := by decide +kernel
theorem k235_1 {d : Nat} {l0 l1 l2 l3 l4 : Option PV} {st : List PV} {M : Mem} {Q : Option PV → Mem → Prop} : WP d 235 1 [l0, l1, l2, l3, l4] (st) M Q = WP d 235 2 [l0, l1, l2, l3, l4] (vi 0 :: st) M Q := w_iconst mC_235 d235_1 (by decide)
theorem d235_2 : decode cX12_act 2 = .ok (.putfield 341, 3) := by decide +kernel
theorem k235_2 {d : Nat} {l0 l1 l2 l3 l4 : Option PV} {st : List PV} {M : Mem} {Q : Option PV → Mem → Prop} {r : Nat} {x : Int32} (hk : mK M r = 12) : WP d 235 2 [l0, l1, l2, l3, l4] (vi x :: vr r :: st) M Q = WP d 235 5 [l0, l1, l2, l3, l4] (st) (sI M r 33 x) Q := w_put mC_235 d235_2 fE_12_341 (by decide +kernel) (by rw [hk]; rfl)
theorem d235_5 : decode cX12_act 5 = .ok (.iload_n 1, 1) := by decide +kernel
theorem k235_5 {d : Nat} {x : Int32} {l0 l2 l3 l4 : Option PV} {st : List PV} {M : Mem} {Q : Option PV → Mem → Prop} : WP d 235 5 [l0, some (vi x), l2, l3, l4] (st) M Q = WP d 235 6 [l0, some (vi x), l2, l3, l4] (vi x :: st) M Q := w1 mC_235 d235_5 rfl rfl
theorem d235_6 : decode cX12_act 6 = .ok (.iconst 0, 1) := by decide +kernel
theorem k235_6 {d : Nat} {l0 l1 l2 l3 l4 : Option PV} {st : List PV} {M : Mem} {Q : Option PV → Mem → Prop} : WP d 235 6 [l0, l1, l2, l3, l4] (st) M Q = WP d 235 7 [l0, l1, l2, l3, l4] (vi 0 :: st) M Q := w_iconst mC_235 d235_6 (by decide)
theorem d235_7 : decode cX12_act 7 = .ok (.aload_n 0, 1) := by decide +kernel
theorem k235_7 {d x : Nat} {l1 l2 l3 l4 : Option PV} {st : List PV} {M : Mem} {Q : Option PV → Mem → Prop} : WP d 235 7 [some (vr x), l1, l2, l3, l4] (st) M Q = WP d 235 8 [some (vr x), l1, l2, l3, l4] (vr x :: st) M Q := w1 mC_235 d235_7 rfl rfl
theorem d235_8 : decode cX12_act 8 = .ok (.getfield 362, 3) := by decide +kernel
theorem k235_8 {d : Nat} {l0 l1 l2 l3 l4 : Option PV} {st : List PV} {M : Mem} {Q : Option PV → Mem → Prop} {r : Nat} (hk : mK M r = 12) : WP d 235 8 [l0, l1, l2, l3, l4] (vr r :: st) M Q = WP d 235 11 [l0, l1, l2, l3, l4] (vi (mI M r 31) :: st) M Q := w_get mC_235 d235_8 fE_12_362 rfl (by rw [hk]; rfl)
theorem d235_11 : decode cX12_act 11 = .ok (.iconst 1, 1) := by decide +kernel
theorem k235_11 {d : Nat} {l0 l1 l2 l3 l4 : Option PV} {st : List PV} {M : Mem} {Q : Option PV → Mem → Prop} : WP d 235 11 [l0, l1, l2, l3, l4] (st) M Q = WP d 235 12 [l0, l1, l2, l3, l4] (vi 1 :: st) M Q := w_iconst mC_235 d235_11 (by decide)
theorem d235_12 : decode cX12_act 12 = .ok (.isub, 1) := by decide +kernel
theorem k235_12 {d : Nat} {l0 l1 l2 l3 l4 : Option PV} {st : List PV} {M : Mem} {Q : Option PV → Mem → Prop} {x y : Int32} : WP d 235 12 [l0, l1, l2, l3, l4] (vi y :: vi x :: st) M Q = WP d 235 13 [l0, l1, l2, l3, l4] (vi (x - y) :: st) M Q := w1 mC_235 d235_12 rfl rfl
theorem d235_13 : decode cX12_act 13 = .ok (.invokestatic 104, 3) := by decide +kernel
theorem k235_13 {d : Nat} {l0 l1 l2 l3 l4 : Option PV} {st : List PV} {M : Mem} {Q : Option PV → Mem → Prop} {a0 a1 a2 : Int32} (hl : szL st ≤ 8) : WP (d + 1) 235 13 [l0, l1, l2, l3, l4] (vi a2 :: vi a1 :: vi a0 :: st) M Q = WP d 145 0 [some (vi a0), some (vi a1), some (vi a2)] [] M (fun v M' => WP (d + 1) 235 16 [l0, l1, l2, l3, l4] (psh v st) M' Q) := w_callS mC_235 d235_13 rfl rfl (Nat.le_of_ble_eq_true rfl) (by decide) rfl hl
theorem d235_16 : decode cX12_act 16 = .ok (.ifCond .eq 12, 3) := by decide +kernel
theorem k235_16 {d : Nat} {l0 l1 l2 l3 l4 : Option PV} {st : List PV} {M : Mem} {Q : Option PV → Mem → Prop} {x : Int32} : WP d 235 16 [l0, l1, l2, l3, l4] (vi x :: st) M Q = (if x = 0 then WP d 235 28 [l0, l1, l2, l3, l4] (st) M Q else WP d 235 19 [l0, l1, l2, l3, l4] (st) M Q) := w_if_eq mC_235 d235_16 (by decide)
theorem d235_19 : decode cX12_act 19 = .ok (.iload_n 2, 1) := by decide +kernel
theorem k235_19 {d : Nat} {x : Int32} {l0 l1 l3 l4 : Option PV} {st : List PV} {M : Mem} {Q : Option PV → Mem → Prop} : WP d 235 19 [l0, l1, some (vi x), l3, l4] (st) M Q = WP d 235 20 [l0, l1, some (vi x), l3, l4] (vi x :: st) M Q := w1 mC_235 d235_19 rfl rfl
theorem d235_20 : decode cX12_act 20 = .ok (.iconst 0, 1) := by decide +kernel
theorem k235_20 {d : Nat} {l0 l1 l2 l3 l4 : Option PV} {st : List PV} {M : Mem} {Q : Option PV → Mem → Prop} : WP d 235 20 [l0, l1, l2, l3, l4] (st) M Q = WP d 235 21 [l0, l1, l2, l3, l4] (vi 0 :: st) M Q := w_iconst mC_235 d235_20 (by decide)
theorem d235_21 : decode cX12_act 21 = .ok (.iconst 3, 1) := by decide +kernel
theorem k235_21 {d : Nat} {l0 l1 l2 l3 l4 : Option PV} {st : List PV} {M : Mem} {Q : Option PV → Mem → Prop} : WP d 235 21 [l0, l1, l2, l3, l4] (st) M Q = WP d 235 22 [l0, l1, l2, l3, l4] (vi 3 :: st) M Q := w_iconst mC_235 d235_21 (by decide)
theorem d235_22 : decode cX12_act 22 = .ok (.invokestatic 104, 3) := by decide +kernel
theorem k235_22 {d : Nat} {l0 l1 l2 l3 l4 : Option PV} {st : List PV} {M : Mem} {Q : Option PV → Mem → Prop} {a0 a1 a2 : Int32} (hl : szL st ≤ 8) : WP (d + 1) 235 22 [l0, l1, l2, l3, l4] (vi a2 :: vi a1 :: vi a0 :: st) M Q = WP d 145 0 [some (vi a0), some (vi a1), some (vi a2)] [] M (fun v M' => WP (d + 1) 235 25 [l0, l1, l2, l3, l4] (psh v st) M' Q) := w_callS mC_235 d235_22 rfl rfl (Nat.le_of_ble_eq_true rfl) (by decide) rfl hl
theorem d235_25 : decode cX12_act 25 = .ok (.ifCond .ne 5, 3) := by decide +kernel
theorem k235_25 {d : Nat} {l0 l1 l2 l3 l4 : Option PV} {st : List PV} {M : Mem} {Q : Option PV → Mem → Prop} {x : Int32} : WP d 235 25 [l0, l1, l2, l3, l4] (vi x :: st) M Q = (if x = 0 then WP d 235 28 [l0, l1, l2, l3, l4] (st) M Q else WP d 235 30 [l0, l1, l2, l3, l4] (st) M Q) := w_if_ne mC_235 d235_25 (by decide)
theorem d235_28 : decode cX12_act 28 = .ok (.iconst 0, 1) := by decide +kernel
theorem k235_28 {d : Nat} {l0 l1 l2 l3 l4 : Option PV} {st : List PV} {M : Mem} {Q : Option PV → Mem → Prop} : WP d 235 28 [l0, l1, l2, l3, l4] (st) M Q = WP d 235 29 [l0, l1, l2, l3, l4] (vi 0 :: st) M Q := w_iconst mC_235 d235_28 (by decide)
theorem d235_29 : decode cX12_act 29 = .ok (.ireturn, 1) := by decide +kernel
theorem k235_29 {d : Nat} {l0 l1 l2 l3 l4 : Option PV} {M : Mem} {Q : Option PV → Mem → Prop} {x : Int32} : WP d 235 29 [l0, l1, l2, l3, l4] ([vi x]) M Q = Q (some (vi x)) M := w_iret mC_235 d235_29 rfl
theorem d235_30 : decode cX12_act 30 = .ok (.aload_n 0, 1) := by decide +kernel
theorem k235_30 {d x : Nat} {l1 l2 l3 l4 : Option PV} {st : List PV} {M : Mem} {Q : Option PV → Mem → Prop} : WP d 235 30 [some (vr x), l1, l2, l3, l4] (st) M Q = WP d 235 31 [some (vr x), l1, l2, l3, l4] (vr x :: st) M Q := w1 mC_235 d235_30 rfl rfl
theorem d235_31 : decode cX12_act 31 = .ok (.getfield 63, 3) := by decide +kernel
theorem k235_31 {d : Nat} {l0 l1 l2 l3 l4 : Option PV} {st : List PV} {M : Mem} {Q : Option PV → Mem → Prop} {r : Nat} (hk : mK M r = 12) : WP d 235 31 [l0, l1, l2, l3, l4] (vr r :: st) M Q = WP d 235 34 [l0, l1, l2, l3, l4] (vr (mR M r 32) :: st) M Q := w_getr mC_235 d235_31 fE_12_63 rfl (by rw [hk]; rfl)
theorem d235_34 : decode cX12_act 34 = .ok (.iload_n 1, 1) := by decide +kernel
theorem k235_34 {d : Nat} {x : Int32} {l0 l2 l3 l4 : Option PV} {st : List PV} {M : Mem} {Q : Option PV → Mem → Prop} : WP d 235 34 [l0, some (vi x), l2, l3, l4] (st) M Q = WP d 235 35 [l0, some (vi x), l2, l3, l4] (vi x :: st) M Q := w1 mC_235 d235_34 rfl rfl
theorem d235_35 : decode cX12_act 35 = .ok (.iaload, 1) := by decide +kernel
theorem k235_35 {d : Nat} {l0 l1 l2 l3 l4 : Option PV} {st : List PV} {M : Mem} {Q : Option PV → Mem → Prop} {r : Nat} {j : Int32} (hk : mK M r = 13) (hj : inb j (mN M r)) (h1 : r ≠ 1) : WP d 235 35 [l0, l1, l2, l3, l4] (vi j :: vr r :: st) M Q = WP d 235 36 [l0, l1, l2, l3, l4] (vi (mI M r (ix j)) :: st) M Q := w_iald mC_235 d235_35 (by decide) hk hj h1
theorem d235_36 : decode cX12_act 36 = .ok (.istore 4, 2) := by decide +kernel
theorem k235_36 {d : Nat} {l0 l1 l2 l3 l4 : Option PV} {st : List PV} {M : Mem} {Q : Option PV → Mem → Prop} {x : Int32} : WP d 235 36 [l0, l1, l2, l3, l4] (vi x :: st) M Q = WP d 235 38 [l0, l1, l2, l3, some (vi x)] (st) M Q := w1 mC_235 d235_36 rfl rfl
theorem d235_38 : decode cX12_act 38 = .ok (.iload_n 2, 1) := by decide +kernel
theorem k235_38 {d : Nat} {x : Int32} {l0 l1 l3 l4 : Option PV} {st : List PV} {M : Mem} {Q : Option PV → Mem → Prop} : WP d 235 38 [l0, l1, some (vi x), l3, l4] (st) M Q = WP d 235 39 [l0, l1, some (vi x), l3, l4] (vi x :: st) M Q := w1 mC_235 d235_38 rfl rfl
theorem d235_39 : decode cX12_act 39 = .ok (.ifCond .ne 14, 3) := by decide +kernel
theorem k235_39 {d : Nat} {l0 l1 l2 l3 l4 : Option PV} {st : List PV} {M : Mem} {Q : Option PV → Mem → Prop} {x : Int32} : WP d 235 39 [l0, l1, l2, l3, l4] (vi x :: st) M Q = (if x = 0 then WP d 235 42 [l0, l1, l2, l3, l4] (st) M Q else WP d 235 53 [l0, l1, l2, l3, l4] (st) M Q) := w_if_ne mC_235 d235_39 (by decide)
theorem d235_42 : decode cX12_act 42 = .ok (.aload_n 0, 1) := by decide +kernel
theorem k235_42 {d x : Nat} {l1 l2 l3 l4 : Option PV} {st : List PV} {M : Mem} {Q : Option PV → Mem → Prop} : WP d 235 42 [some (vr x), l1, l2, l3, l4] (st) M Q = WP d 235 43 [some (vr x), l1, l2, l3, l4] (vr x :: st) M Q := w1 mC_235 d235_42 rfl rfl
theorem d235_43 : decode cX12_act 43 = .ok (.iload_n 1, 1) := by decide +kernel
theorem k235_43 {d : Nat} {x : Int32} {l0 l2 l3 l4 : Option PV} {st : List PV} {M : Mem} {Q : Option PV → Mem → Prop} : WP d 235 43 [l0, some (vi x), l2, l3, l4] (st) M Q = WP d 235 44 [l0, some (vi x), l2, l3, l4] (vi x :: st) M Q := w1 mC_235 d235_43 rfl rfl
theorem d235_44 : decode cX12_act 44 = .ok (.iload 4, 2) := by decide +kernel
theorem k235_44 {d : Nat} {x : Int32} {l0 l1 l2 l3 : Option PV} {st : List PV} {M : Mem} {Q : Option PV → Mem → Prop} : WP d 235 44 [l0, l1, l2, l3, some (vi x)] (st) M Q = WP d 235 46 [l0, l1, l2, l3, some (vi x)] (vi x :: st) M Q := w1 mC_235 d235_44 rfl rfl
theorem d235_46 : decode cX12_act 46 = .ok (.iload_n 3, 1) := by decide +kernel
theorem k235_46 {d : Nat} {x : Int32} {l0 l1 l2 l4 : Option PV} {st : List PV} {M : Mem} {Q : Option PV → Mem → Prop} : WP d 235 46 [l0, l1, l2, some (vi x), l4] (st) M Q = WP d 235 47 [l0, l1, l2, some (vi x), l4] (vi x :: st) M Q := w1 mC_235 d235_46 rfl rfl
theorem d235_47 : decode cX12_act 47 = .ok (.invokevirtual 347, 3) := by decide +kernel
theorem k235_47 {d : Nat} {l0 l1 l2 l3 l4 : Option PV} {st : List PV} {M : Mem} {Q : Option PV → Mem → Prop} {a0 a1 a2 : Int32} {r : Nat} (hl : szL st ≤ 8) (hk : mK M r = 12) : WP (d + 1) 235 47 [l0, l1, l2, l3, l4] (vi a2 :: vi a1 :: vi a0 :: vr r :: st) M Q = WP d 230 0 [some (vr r), some (vi a0), some (vi a1), some (vi a2)] [] M (fun v M' => WP (d + 1) 235 50 [l0, l1, l2, l3, l4] (psh v st) M' Q) := w_callV mC_235 d235_47 (ci := 12) rfl rfl rfl (Nat.le_of_ble_eq_true rfl) (by decide) rfl hl hk
theorem d235_50 : decode cX12_act 50 = .ok (.goto 43, 3) := by decide +kernel
theorem k235_50 {d : Nat} {l0 l1 l2 l3 l4 : Option PV} {st : List PV} {M : Mem} {Q : Option PV → Mem → Prop} : WP d 235 50 [l0, l1, l2, l3, l4] (st) M Q = WP d 235 93 [l0, l1, l2, l3, l4] (st) M Q := w_goto mC_235 d235_50 (by decide)
theorem d235_53 : decode cX12_act 53 = .ok (.iload_n 2, 1) := by decide +kernel
theorem k235_53 {d : Nat} {x : Int32} {l0 l1 l3 l4 : Option PV} {st : List PV} {M : Mem} {Q : Option PV → Mem → Prop} : WP d 235 53 [l0, l1, some (vi x), l3, l4] (st) M Q = WP d 235 54 [l0, l1, some (vi x), l3, l4] (vi x :: st) M Q := w1 mC_235 d235_53 rfl rfl
theorem d235_54 : decode cX12_act 54 = .ok (.iconst 1, 1) := by decide +kernel
theorem k235_54 {d : Nat} {l0 l1 l2 l3 l4 : Option PV} {st : List PV} {M : Mem} {Q : Option PV → Mem → Prop} : WP d 235 54 [l0, l1, l2, l3, l4] (st) M Q = WP d 235 55 [l0, l1, l2, l3, l4] (vi 1 :: st) M Q := w_iconst mC_235 d235_54 (by decide)
theorem d235_55 : decode cX12_act 55 = .ok (.if_icmp .ne 14, 3) := by decide +kernel
theorem k235_55 {d : Nat} {l0 l1 l2 l3 l4 : Option PV} {st : List PV} {M : Mem} {Q : Option PV → Mem → Prop} {x y : Int32} : WP d 235 55 [l0, l1, l2, l3, l4] (vi y :: vi x :: st) M Q = (if x = y then WP d 235 58 [l0, l1, l2, l3, l4] (st) M Q else WP d 235 69 [l0, l1, l2, l3, l4] (st) M Q) := w_ic_ne mC_235 d235_55 (by decide)
theorem d235_58 : decode cX12_act 58 = .ok (.aload_n 0, 1) := by decide +kernel
theorem k235_58 {d x : Nat} {l1 l2 l3 l4 : Option PV} {st : List PV} {M : Mem} {Q : Option PV → Mem → Prop} : WP d 235 58 [some (vr x), l1, l2, l3, l4] (st) M Q = WP d 235 59 [some (vr x), l1, l2, l3, l4] (vr x :: st) M Q := w1 mC_235 d235_58 rfl rfl
theorem d235_59 : decode cX12_act 59 = .ok (.iload_n 1, 1) := by decide +kernel
theorem k235_59 {d : Nat} {x : Int32} {l0 l2 l3 l4 : Option PV} {st : List PV} {M : Mem} {Q : Option PV → Mem → Prop} : WP d 235 59 [l0, some (vi x), l2, l3, l4] (st) M Q = WP d 235 60 [l0, some (vi x), l2, l3, l4] (vi x :: st) M Q := w1 mC_235 d235_59 rfl rfl
theorem d235_60 : decode cX12_act 60 = .ok (.iload 4, 2) := by decide +kernel
theorem k235_60 {d : Nat} {x : Int32} {l0 l1 l2 l3 : Option PV} {st : List PV} {M : Mem} {Q : Option PV → Mem → Prop} : WP d 235 60 [l0, l1, l2, l3, some (vi x)] (st) M Q = WP d 235 62 [l0, l1, l2, l3, some (vi x)] (vi x :: st) M Q := w1 mC_235 d235_60 rfl rfl
theorem d235_62 : decode cX12_act 62 = .ok (.iload_n 3, 1) := by decide +kernel
theorem k235_62 {d : Nat} {x : Int32} {l0 l1 l2 l4 : Option PV} {st : List PV} {M : Mem} {Q : Option PV → Mem → Prop} : WP d 235 62 [l0, l1, l2, some (vi x), l4] (st) M Q = WP d 235 63 [l0, l1, l2, some (vi x), l4] (vi x :: st) M Q := w1 mC_235 d235_62 rfl rfl
theorem d235_63 : decode cX12_act 63 = .ok (.invokevirtual 353, 3) := by decide +kernel
theorem k235_63 {d : Nat} {l0 l1 l2 l3 l4 : Option PV} {st : List PV} {M : Mem} {Q : Option PV → Mem → Prop} {a0 a1 a2 : Int32} {r : Nat} (hl : szL st ≤ 8) (hk : mK M r = 12) : WP (d + 1) 235 63 [l0, l1, l2, l3, l4] (vi a2 :: vi a1 :: vi a0 :: vr r :: st) M Q = WP d 231 0 [some (vr r), some (vi a0), some (vi a1), some (vi a2), none] [] M (fun v M' => WP (d + 1) 235 66 [l0, l1, l2, l3, l4] (psh v st) M' Q) := w_callV mC_235 d235_63 (ci := 12) rfl rfl rfl (Nat.le_of_ble_eq_true rfl) (by decide) rfl hl hk
theorem d235_66 : decode cX12_act 66 = .ok (.goto 27, 3) := by decide +kernel
theorem k235_66 {d : Nat} {l0 l1 l2 l3 l4 : Option PV} {st : List PV} {M : Mem} {Q : Option PV → Mem → Prop} : WP d 235 66 [l0, l1, l2, l3, l4] (st) M Q = WP d 235 93 [l0, l1, l2, l3, l4] (st) M Q := w_goto mC_235 d235_66 (by decide)
theorem d235_69 : decode cX12_act 69 = .ok (.iload_n 2, 1) := by decide +kernel
theorem k235_69 {d : Nat} {x : Int32} {l0 l1 l3 l4 : Option PV} {st : List PV} {M : Mem} {Q : Option PV → Mem → Prop} : WP d 235 69 [l0, l1, some (vi x), l3, l4] (st) M Q = WP d 235 70 [l0, l1, some (vi x), l3, l4] (vi x :: st) M Q := w1 mC_235 d235_69 rfl rfl
theorem d235_70 : decode cX12_act 70 = .ok (.iconst 2, 1) := by decide +kernel
theorem k235_70 {d : Nat} {l0 l1 l2 l3 l4 : Option PV} {st : List PV} {M : Mem} {Q : Option PV → Mem → Prop} : WP d 235 70 [l0, l1, l2, l3, l4] (st) M Q = WP d 235 71 [l0, l1, l2, l3, l4] (vi 2 :: st) M Q := w_iconst mC_235 d235_70 (by decide)
theorem d235_71 : decode cX12_act 71 = .ok (.if_icmp .ne 14, 3) := by decide +kernel
theorem k235_71 {d : Nat} {l0 l1 l2 l3 l4 : Option PV} {st : List PV} {M : Mem} {Q : Option PV → Mem → Prop} {x y : Int32} : WP d 235 71 [l0, l1, l2, l3, l4] (vi y :: vi x :: st) M Q = (if x = y then WP d 235 74 [l0, l1, l2, l3, l4] (st) M Q else WP d 235 85 [l0, l1, l2, l3, l4] (st) M Q) := w_ic_ne mC_235 d235_71 (by decide)
theorem d235_74 : decode cX12_act 74 = .ok (.aload_n 0, 1) := by decide +kernel
theorem k235_74 {d x : Nat} {l1 l2 l3 l4 : Option PV} {st : List PV} {M : Mem} {Q : Option PV → Mem → Prop} : WP d 235 74 [some (vr x), l1, l2, l3, l4] (st) M Q = WP d 235 75 [some (vr x), l1, l2, l3, l4] (vr x :: st) M Q := w1 mC_235 d235_74 rfl rfl
theorem d235_75 : decode cX12_act 75 = .ok (.iload_n 1, 1) := by decide +kernel
theorem k235_75 {d : Nat} {x : Int32} {l0 l2 l3 l4 : Option PV} {st : List PV} {M : Mem} {Q : Option PV → Mem → Prop} : WP d 235 75 [l0, some (vi x), l2, l3, l4] (st) M Q = WP d 235 76 [l0, some (vi x), l2, l3, l4] (vi x :: st) M Q := w1 mC_235 d235_75 rfl rfl
theorem d235_76 : decode cX12_act 76 = .ok (.iload 4, 2) := by decide +kernel
theorem k235_76 {d : Nat} {x : Int32} {l0 l1 l2 l3 : Option PV} {st : List PV} {M : Mem} {Q : Option PV → Mem → Prop} : WP d 235 76 [l0, l1, l2, l3, some (vi x)] (st) M Q = WP d 235 78 [l0, l1, l2, l3, some (vi x)] (vi x :: st) M Q := w1 mC_235 d235_76 rfl rfl
theorem d235_78 : decode cX12_act 78 = .ok (.iload_n 3, 1) := by decide +kernel
theorem k235_78 {d : Nat} {x : Int32} {l0 l1 l2 l4 : Option PV} {st : List PV} {M : Mem} {Q : Option PV → Mem → Prop} : WP d 235 78 [l0, l1, l2, some (vi x), l4] (st) M Q = WP d 235 79 [l0, l1, l2, some (vi x), l4] (vi x :: st) M Q := w1 mC_235 d235_78 rfl rfl
theorem d235_79 : decode cX12_act 79 = .ok (.invokevirtual 356, 3) := by decide +kernel
theorem k235_79 {d : Nat} {l0 l1 l2 l3 l4 : Option PV} {st : List PV} {M : Mem} {Q : Option PV → Mem → Prop} {a0 a1 a2 : Int32} {r : Nat} (hl : szL st ≤ 8) (hk : mK M r = 12) : WP (d + 1) 235 79 [l0, l1, l2, l3, l4] (vi a2 :: vi a1 :: vi a0 :: vr r :: st) M Q = WP d 232 0 [some (vr r), some (vi a0), some (vi a1), some (vi a2), none] [] M (fun v M' => WP (d + 1) 235 82 [l0, l1, l2, l3, l4] (psh v st) M' Q) := w_callV mC_235 d235_79 (ci := 12) rfl rfl rfl (Nat.le_of_ble_eq_true rfl) (by decide) rfl hl hk
theorem d235_82 : decode cX12_act 82 = .ok (.goto 11, 3) := by decide +kernel
theorem k235_82 {d : Nat} {l0 l1 l2 l3 l4 : Option PV} {st : List PV} {M : Mem} {Q : Option PV → Mem → Prop} : WP d 235 82 [l0, l1, l2, l3, l4] (st) M Q = WP d 235 93 [l0, l1, l2, l3, l4] (st) M Q := w_goto mC_235 d235_82 (by decide)
theorem d235_85 : decode cX12_act 85 = .ok (.aload_n 0, 1) := by decide +kernel
theorem k235_85 {d x : Nat} {l1 l2 l3 l4 : Option PV} {st : List PV} {M : Mem} {Q : Option PV → Mem → Prop} : WP d 235 85 [some (vr x), l1, l2, l3, l4] (st) M Q = WP d 235 86 [some (vr x), l1, l2, l3, l4] (vr x :: st) M Q := w1 mC_235 d235_85 rfl rfl
theorem d235_86 : decode cX12_act 86 = .ok (.iload_n 1, 1) := by decide +kernel
theorem k235_86 {d : Nat} {x : Int32} {l0 l2 l3 l4 : Option PV} {st : List PV} {M : Mem} {Q : Option PV → Mem → Prop} : WP d 235 86 [l0, some (vi x), l2, l3, l4] (st) M Q = WP d 235 87 [l0, some (vi x), l2, l3, l4] (vi x :: st) M Q := w1 mC_235 d235_86 rfl rfl
theorem d235_87 : decode cX12_act 87 = .ok (.iload 4, 2) := by decide +kernel
theorem k235_87 {d : Nat} {x : Int32} {l0 l1 l2 l3 : Option PV} {st : List PV} {M : Mem} {Q : Option PV → Mem → Prop} : WP d 235 87 [l0, l1, l2, l3, some (vi x)] (st) M Q = WP d 235 89 [l0, l1, l2, l3, some (vi x)] (vi x :: st) M Q := w1 mC_235 d235_87 rfl rfl
theorem d235_89 : decode cX12_act 89 = .ok (.iload_n 3, 1) := by decide +kernel
theorem k235_89 {d : Nat} {x : Int32} {l0 l1 l2 l4 : Option PV} {st : List PV} {M : Mem} {Q : Option PV → Mem → Prop} : WP d 235 89 [l0, l1, l2, some (vi x), l4] (st) M Q = WP d 235 90 [l0, l1, l2, some (vi x), l4] (vi x :: st) M Q := w1 mC_235 d235_89 rfl rfl
theorem d235_90 : decode cX12_act 90 = .ok (.invokevirtual 359, 3) := by decide +kernel
theorem k235_90 {d : Nat} {l0 l1 l2 l3 l4 : Option PV} {st : List PV} {M : Mem} {Q : Option PV → Mem → Prop} {a0 a1 a2 : Int32} {r : Nat} (hl : szL st ≤ 8) (hk : mK M r = 12) : WP (d + 1) 235 90 [l0, l1, l2, l3, l4] (vi a2 :: vi a1 :: vi a0 :: vr r :: st) M Q = WP d 233 0 [some (vr r), some (vi a0), some (vi a1), some (vi a2), none] [] M (fun v M' => WP (d + 1) 235 93 [l0, l1, l2, l3, l4] (psh v st) M' Q) := w_callV mC_235 d235_90 (ci := 12) rfl rfl rfl (Nat.le_of_ble_eq_true rfl) (by decide) rfl hl hk
theorem d235_93 : decode cX12_act 93 = .ok (.ireturn, 1) := by decide +kernel
theorem k235_93 {d : Nat} {l0 l1 l2 l3 l4 : Option PV} {M : Mem} {Q : Option PV → Mem → Prop} {x : Int32} : WP d 235 93 [l0, l1, l2, l3, l4] ([vi x]) M Q = Q (some (vi x)) M := w_iret mC_235 d235_93 rfl
theorem d236_0 : decode cX12_trace 0 = .ok (.iload_n 1, 1) := by decide +kernel
theorem k236_0 {d : Nat} {x : Int32} {l0 : Option PV} {st : List PV} {M : Mem} {Q : Option PV → Mem → Prop} : WP d 236 0 [l0, some (vi x)] (st) M Q = WP d 236 1 [l0, some (vi x)] (vi x :: st) M Q := w1 mC_236 d236_0 rfl rfl
theorem d236_1 : decode cX12_trace 1 = .ok (.iconst 0, 1) := by decide +kernel
theorem k236_1 {d : Nat} {l0 l1 : Option PV} {st : List PV} {M : Mem} {Q : Option PV → Mem → Prop} : WP d 236 1 [l0, l1] (st) M Q = WP d 236 2 [l0, l1] (vi 0 :: st) M Q := w_iconst mC_236 d236_1 (by decide)
theorem d236_2 : decode cX12_trace 2 = .ok (.bipush 24, 2) := by decide +kernel
theorem k236_2 {d : Nat} {l0 l1 : Option PV} {st : List PV} {M : Mem} {Q : Option PV → Mem → Prop} : WP d 236 2 [l0, l1] (st) M Q = WP d 236 4 [l0, l1] (vi 24 :: st) M Q := w_bipush mC_236 d236_2 (by decide)
theorem d236_4 : decode cX12_trace 4 = .ok (.aload_n 0, 1) := by decide +kernel
theorem k236_4 {d x : Nat} {l1 : Option PV} {st : List PV} {M : Mem} {Q : Option PV → Mem → Prop} : WP d 236 4 [some (vr x), l1] (st) M Q = WP d 236 5 [some (vr x), l1] (vr x :: st) M Q := w1 mC_236 d236_4 rfl rfl
theorem d236_5 : decode cX12_trace 5 = .ok (.getfield 341, 3) := by decide +kernel
theorem k236_5 {d : Nat} {l0 l1 : Option PV} {st : List PV} {M : Mem} {Q : Option PV → Mem → Prop} {r : Nat} (hk : mK M r = 12) : WP d 236 5 [l0, l1] (vr r :: st) M Q = WP d 236 8 [l0, l1] (vi (mI M r 33) :: st) M Q := w_get mC_236 d236_5 fE_12_341 rfl (by rw [hk]; rfl)
theorem d236_8 : decode cX12_trace 8 = .ok (.invokestatic 243, 3) := by decide +kernel
theorem k236_8 {d : Nat} {l0 l1 : Option PV} {st : List PV} {M : Mem} {Q : Option PV → Mem → Prop} {x y : Int32} (hl : szL st ≤ 8) : WP d 236 8 [l0, l1] (vi y :: vi x :: st) M Q = WP d 236 11 [l0, l1] (vi (if y < x then y else x) :: st) M Q := w_min mC_236 d236_8 rfl rfl rfl hl
theorem d236_11 : decode cX12_trace 11 = .ok (.iconst 1, 1) := by decide +kernel
theorem k236_11 {d : Nat} {l0 l1 : Option PV} {st : List PV} {M : Mem} {Q : Option PV → Mem → Prop} : WP d 236 11 [l0, l1] (st) M Q = WP d 236 12 [l0, l1] (vi 1 :: st) M Q := w_iconst mC_236 d236_11 (by decide)
theorem d236_12 : decode cX12_trace 12 = .ok (.isub, 1) := by decide +kernel
theorem k236_12 {d : Nat} {l0 l1 : Option PV} {st : List PV} {M : Mem} {Q : Option PV → Mem → Prop} {x y : Int32} : WP d 236 12 [l0, l1] (vi y :: vi x :: st) M Q = WP d 236 13 [l0, l1] (vi (x - y) :: st) M Q := w1 mC_236 d236_12 rfl rfl
theorem d236_13 : decode cX12_trace 13 = .ok (.invokestatic 104, 3) := by decide +kernel
theorem k236_13 {d : Nat} {l0 l1 : Option PV} {st : List PV} {M : Mem} {Q : Option PV → Mem → Prop} {a0 a1 a2 : Int32} (hl : szL st ≤ 8) : WP (d + 1) 236 13 [l0, l1] (vi a2 :: vi a1 :: vi a0 :: st) M Q = WP d 145 0 [some (vi a0), some (vi a1), some (vi a2)] [] M (fun v M' => WP (d + 1) 236 16 [l0, l1] (psh v st) M' Q) := w_callS mC_236 d236_13 rfl rfl (Nat.le_of_ble_eq_true rfl) (by decide) rfl hl
theorem d236_16 : decode cX12_trace 16 = .ok (.ifCond .eq 12, 3) := by decide +kernel
theorem k236_16 {d : Nat} {l0 l1 : Option PV} {st : List PV} {M : Mem} {Q : Option PV → Mem → Prop} {x : Int32} : WP d 236 16 [l0, l1] (vi x :: st) M Q = (if x = 0 then WP d 236 28 [l0, l1] (st) M Q else WP d 236 19 [l0, l1] (st) M Q) := w_if_eq mC_236 d236_16 (by decide)
theorem d236_19 : decode cX12_trace 19 = .ok (.aload_n 0, 1) := by decide +kernel
theorem k236_19 {d x : Nat} {l1 : Option PV} {st : List PV} {M : Mem} {Q : Option PV → Mem → Prop} : WP d 236 19 [some (vr x), l1] (st) M Q = WP d 236 20 [some (vr x), l1] (vr x :: st) M Q := w1 mC_236 d236_19 rfl rfl
theorem d236_20 : decode cX12_trace 20 = .ok (.getfield 66, 3) := by decide +kernel
theorem k236_20 {d : Nat} {l0 l1 : Option PV} {st : List PV} {M : Mem} {Q : Option PV → Mem → Prop} {r : Nat} (hk : mK M r = 12) : WP d 236 20 [l0, l1] (vr r :: st) M Q = WP d 236 23 [l0, l1] (vr (mR M r 34) :: st) M Q := w_getr mC_236 d236_20 fE_12_66 rfl (by rw [hk]; rfl)
theorem d236_23 : decode cX12_trace 23 = .ok (.iload_n 1, 1) := by decide +kernel
theorem k236_23 {d : Nat} {x : Int32} {l0 : Option PV} {st : List PV} {M : Mem} {Q : Option PV → Mem → Prop} : WP d 236 23 [l0, some (vi x)] (st) M Q = WP d 236 24 [l0, some (vi x)] (vi x :: st) M Q := w1 mC_236 d236_23 rfl rfl
theorem d236_24 : decode cX12_trace 24 = .ok (.iaload, 1) := by decide +kernel
theorem k236_24 {d : Nat} {l0 l1 : Option PV} {st : List PV} {M : Mem} {Q : Option PV → Mem → Prop} {r : Nat} {j : Int32} (hk : mK M r = 13) (hj : inb j (mN M r)) (h1 : r ≠ 1) : WP d 236 24 [l0, l1] (vi j :: vr r :: st) M Q = WP d 236 25 [l0, l1] (vi (mI M r (ix j)) :: st) M Q := w_iald mC_236 d236_24 (by decide) hk hj h1
theorem d236_25 : decode cX12_trace 25 = .ok (.goto 4, 3) := by decide +kernel
theorem k236_25 {d : Nat} {l0 l1 : Option PV} {st : List PV} {M : Mem} {Q : Option PV → Mem → Prop} : WP d 236 25 [l0, l1] (st) M Q = WP d 236 29 [l0, l1] (st) M Q := w_goto mC_236 d236_25 (by decide)
theorem d236_28 : decode cX12_trace 28 = .ok (.iconst (-1), 1) := by decide +kernel
theorem k236_28 {d : Nat} {l0 l1 : Option PV} {st : List PV} {M : Mem} {Q : Option PV → Mem → Prop} : WP d 236 28 [l0, l1] (st) M Q = WP d 236 29 [l0, l1] (vi (-1) :: st) M Q := w_iconst mC_236 d236_28 (by decide)
theorem d236_29 : decode cX12_trace 29 = .ok (.ireturn, 1) := by decide +kernel
theorem k236_29 {d : Nat} {l0 l1 : Option PV} {M : Mem} {Q : Option PV → Mem → Prop} {x : Int32} : WP d 236 29 [l0, l1] ([vi x]) M Q = Q (some (vi x)) M := w_iret mC_236 d236_29 rfl
theorem d237_0 : decode cX12_keep 0 = .ok (.iload_n 1, 1) := by decide +kernel
theorem k237_0 {d : Nat} {x : Int32} {l0 l2 : Option PV} {st : List PV} {M : Mem} {Q : Option PV → Mem → Prop} : WP d 237 0 [l0, some (vi x), l2] (st) M Q = WP d 237 1 [l0, some (vi x), l2] (vi x :: st) M Q := w1 mC_237 d237_0 rfl rfl
theorem d237_1 : decode cX12_keep 1 = .ok (.invokestatic 122, 3) := by decide +kernel
theorem k237_1 {d : Nat} {l0 l1 l2 : Option PV} {st : List PV} {M : Mem} {Q : Option PV → Mem → Prop} {a0 : Int32} (hl : szL st ≤ 8) : WP (d + 1) 237 1 [l0, l1, l2] (vi a0 :: st) M Q = WP d 149 0 [some (vi a0)] [] M (fun v M' => WP (d + 1) 237 4 [l0, l1, l2] (psh v st) M' Q) := w_callS mC_237 d237_1 rfl rfl (Nat.le_of_ble_eq_true rfl) (by decide) rfl hl
theorem d237_4 : decode cX12_keep 4 = .ok (.ifCond .eq 17, 3) := by decide +kernel
theorem k237_4 {d : Nat} {l0 l1 l2 : Option PV} {st : List PV} {M : Mem} {Q : Option PV → Mem → Prop} {x : Int32} : WP d 237 4 [l0, l1, l2] (vi x :: st) M Q = (if x = 0 then WP d 237 21 [l0, l1, l2] (st) M Q else WP d 237 7 [l0, l1, l2] (st) M Q) := w_if_eq mC_237 d237_4 (by decide)
theorem d237_7 : decode cX12_keep 7 = .ok (.iload_n 2, 1) := by decide +kernel
theorem k237_7 {d : Nat} {x : Int32} {l0 l1 : Option PV} {st : List PV} {M : Mem} {Q : Option PV → Mem → Prop} : WP d 237 7 [l0, l1, some (vi x)] (st) M Q = WP d 237 8 [l0, l1, some (vi x)] (vi x :: st) M Q := w1 mC_237 d237_7 rfl rfl
theorem d237_8 : decode cX12_keep 8 = .ok (.iconst (-1), 1) := by decide +kernel
theorem k237_8 {d : Nat} {l0 l1 l2 : Option PV} {st : List PV} {M : Mem} {Q : Option PV → Mem → Prop} : WP d 237 8 [l0, l1, l2] (st) M Q = WP d 237 9 [l0, l1, l2] (vi (-1) :: st) M Q := w_iconst mC_237 d237_8 (by decide)
theorem d237_9 : decode cX12_keep 9 = .ok (.aload_n 0, 1) := by decide +kernel
theorem k237_9 {d x : Nat} {l1 l2 : Option PV} {st : List PV} {M : Mem} {Q : Option PV → Mem → Prop} : WP d 237 9 [some (vr x), l1, l2] (st) M Q = WP d 237 10 [some (vr x), l1, l2] (vr x :: st) M Q := w1 mC_237 d237_9 rfl rfl
theorem d237_10 : decode cX12_keep 10 = .ok (.getfield 362, 3) := by decide +kernel
theorem k237_10 {d : Nat} {l0 l1 l2 : Option PV} {st : List PV} {M : Mem} {Q : Option PV → Mem → Prop} {r : Nat} (hk : mK M r = 12) : WP d 237 10 [l0, l1, l2] (vr r :: st) M Q = WP d 237 13 [l0, l1, l2] (vi (mI M r 31) :: st) M Q := w_get mC_237 d237_10 fE_12_362 rfl (by rw [hk]; rfl)
theorem d237_13 : decode cX12_keep 13 = .ok (.iconst 1, 1) := by decide +kernel
theorem k237_13 {d : Nat} {l0 l1 l2 : Option PV} {st : List PV} {M : Mem} {Q : Option PV → Mem → Prop} : WP d 237 13 [l0, l1, l2] (st) M Q = WP d 237 14 [l0, l1, l2] (vi 1 :: st) M Q := w_iconst mC_237 d237_13 (by decide)
theorem d237_14 : decode cX12_keep 14 = .ok (.isub, 1) := by decide +kernel
theorem k237_14 {d : Nat} {l0 l1 l2 : Option PV} {st : List PV} {M : Mem} {Q : Option PV → Mem → Prop} {x y : Int32} : WP d 237 14 [l0, l1, l2] (vi y :: vi x :: st) M Q = WP d 237 15 [l0, l1, l2] (vi (x - y) :: st) M Q := w1 mC_237 d237_14 rfl rfl
theorem d237_15 : decode cX12_keep 15 = .ok (.invokestatic 104, 3) := by decide +kernel
theorem k237_15 {d : Nat} {l0 l1 l2 : Option PV} {st : List PV} {M : Mem} {Q : Option PV → Mem → Prop} {a0 a1 a2 : Int32} (hl : szL st ≤ 8) : WP (d + 1) 237 15 [l0, l1, l2] (vi a2 :: vi a1 :: vi a0 :: st) M Q = WP d 145 0 [some (vi a0), some (vi a1), some (vi a2)] [] M (fun v M' => WP (d + 1) 237 18 [l0, l1, l2] (psh v st) M' Q) := w_callS mC_237 d237_15 rfl rfl (Nat.le_of_ble_eq_true rfl) (by decide) rfl hl
theorem d237_18 : decode cX12_keep 18 = .ok (.ifCond .ne 5, 3) := by decide +kernel
theorem k237_18 {d : Nat} {l0 l1 l2 : Option PV} {st : List PV} {M : Mem} {Q : Option PV → Mem → Prop} {x : Int32} : WP d 237 18 [l0, l1, l2] (vi x :: st) M Q = (if x = 0 then WP d 237 21 [l0, l1, l2] (st) M Q else WP d 237 23 [l0, l1, l2] (st) M Q) := w_if_ne mC_237 d237_18 (by decide)
theorem d237_21 : decode cX12_keep 21 = .ok (.iconst (-1), 1) := by decide +kernel
theorem k237_21 {d : Nat} {l0 l1 l2 : Option PV} {st : List PV} {M : Mem} {Q : Option PV → Mem → Prop} : WP d 237 21 [l0, l1, l2] (st) M Q = WP d 237 22 [l0, l1, l2] (vi (-1) :: st) M Q := w_iconst mC_237 d237_21 (by decide)
theorem d237_22 : decode cX12_keep 22 = .ok (.ireturn, 1) := by decide +kernel
theorem k237_22 {d : Nat} {l0 l1 l2 : Option PV} {M : Mem} {Q : Option PV → Mem → Prop} {x : Int32} : WP d 237 22 [l0, l1, l2] ([vi x]) M Q = Q (some (vi x)) M := w_iret mC_237 d237_22 rfl
theorem d237_23 : decode cX12_keep 23 = .ok (.aload_n 0, 1) := by decide +kernel
theorem k237_23 {d x : Nat} {l1 l2 : Option PV} {st : List PV} {M : Mem} {Q : Option PV → Mem → Prop} : WP d 237 23 [some (vr x), l1, l2] (st) M Q = WP d 237 24 [some (vr x), l1, l2] (vr x :: st) M Q := w1 mC_237 d237_23 rfl rfl
theorem d237_24 : decode cX12_keep 24 = .ok (.getfield 69, 3) := by decide +kernel
theorem k237_24 {d : Nat} {l0 l1 l2 : Option PV} {st : List PV} {M : Mem} {Q : Option PV → Mem → Prop} {r : Nat} (hk : mK M r = 12) : WP d 237 24 [l0, l1, l2] (vr r :: st) M Q = WP d 237 27 [l0, l1, l2] (vr (mR M r 35) :: st) M Q := w_getr mC_237 d237_24 fE_12_69 rfl (by rw [hk]; rfl)
theorem d237_27 : decode cX12_keep 27 = .ok (.iload_n 1, 1) := by decide +kernel
theorem k237_27 {d : Nat} {x : Int32} {l0 l2 : Option PV} {st : List PV} {M : Mem} {Q : Option PV → Mem → Prop} : WP d 237 27 [l0, some (vi x), l2] (st) M Q = WP d 237 28 [l0, some (vi x), l2] (vi x :: st) M Q := w1 mC_237 d237_27 rfl rfl
theorem d237_28 : decode cX12_keep 28 = .ok (.iload_n 2, 1) := by decide +kernel
theorem k237_28 {d : Nat} {x : Int32} {l0 l1 : Option PV} {st : List PV} {M : Mem} {Q : Option PV → Mem → Prop} : WP d 237 28 [l0, l1, some (vi x)] (st) M Q = WP d 237 29 [l0, l1, some (vi x)] (vi x :: st) M Q := w1 mC_237 d237_28 rfl rfl
theorem d237_29 : decode cX12_keep 29 = .ok (.ifCond .ge 7, 3) := by decide +kernel
theorem k237_29 {d : Nat} {l0 l1 l2 : Option PV} {st : List PV} {M : Mem} {Q : Option PV → Mem → Prop} {x : Int32} : WP d 237 29 [l0, l1, l2] (vi x :: st) M Q = (if 0 ≤ x then WP d 237 36 [l0, l1, l2] (st) M Q else WP d 237 32 [l0, l1, l2] (st) M Q) := w_if_ge mC_237 d237_29 (by decide)
theorem d237_32 : decode cX12_keep 32 = .ok (.iconst (-1), 1) := by decide +kernel
theorem k237_32 {d : Nat} {l0 l1 l2 : Option PV} {st : List PV} {M : Mem} {Q : Option PV → Mem → Prop} : WP d 237 32 [l0, l1, l2] (st) M Q = WP d 237 33 [l0, l1, l2] (vi (-1) :: st) M Q := w_iconst mC_237 d237_32 (by decide)
theorem d237_33 : decode cX12_keep 33 = .ok (.goto 7, 3) := by decide +kernel
theorem k237_33 {d : Nat} {l0 l1 l2 : Option PV} {st : List PV} {M : Mem} {Q : Option PV → Mem → Prop} : WP d 237 33 [l0, l1, l2] (st) M Q = WP d 237 40 [l0, l1, l2] (st) M Q := w_goto mC_237 d237_33 (by decide)
theorem d237_36 : decode cX12_keep 36 = .ok (.bipush 10, 2) := by decide +kernel
theorem k237_36 {d : Nat} {l0 l1 l2 : Option PV} {st : List PV} {M : Mem} {Q : Option PV → Mem → Prop} : WP d 237 36 [l0, l1, l2] (st) M Q = WP d 237 38 [l0, l1, l2] (vi 10 :: st) M Q := w_bipush mC_237 d237_36 (by decide)
theorem d237_38 : decode cX12_keep 38 = .ok (.iload_n 2, 1) := by decide +kernel
theorem k237_38 {d : Nat} {x : Int32} {l0 l1 : Option PV} {st : List PV} {M : Mem} {Q : Option PV → Mem → Prop} : WP d 237 38 [l0, l1, some (vi x)] (st) M Q = WP d 237 39 [l0, l1, some (vi x)] (vi x :: st) M Q := w1 mC_237 d237_38 rfl rfl
theorem d237_39 : decode cX12_keep 39 = .ok (.iadd, 1) := by decide +kernel
theorem k237_39 {d : Nat} {l0 l1 l2 : Option PV} {st : List PV} {M : Mem} {Q : Option PV → Mem → Prop} {x y : Int32} : WP d 237 39 [l0, l1, l2] (vi y :: vi x :: st) M Q = WP d 237 40 [l0, l1, l2] (vi (x + y) :: st) M Q := w1 mC_237 d237_39 rfl rfl
theorem d237_40 : decode cX12_keep 40 = .ok (.iastore, 1) := by decide +kernel
theorem k237_40 {d : Nat} {l0 l1 l2 : Option PV} {st : List PV} {M : Mem} {Q : Option PV → Mem → Prop} {r : Nat} {j x : Int32} (hk : mK M r = 13) (hj : inb j (mN M r)) (h1 : r ≠ 1) : WP d 237 40 [l0, l1, l2] (vi x :: vi j :: vr r :: st) M Q = WP d 237 41 [l0, l1, l2] (st) (sI M r (ix j) x) Q := w_iast mC_237 d237_40 hk hj h1
theorem d237_41 : decode cX12_keep 41 = .ok (.aload_n 0, 1) := by decide +kernel
theorem k237_41 {d x : Nat} {l1 l2 : Option PV} {st : List PV} {M : Mem} {Q : Option PV → Mem → Prop} : WP d 237 41 [some (vr x), l1, l2] (st) M Q = WP d 237 42 [some (vr x), l1, l2] (vr x :: st) M Q := w1 mC_237 d237_41 rfl rfl
theorem d237_42 : decode cX12_keep 42 = .ok (.getfield 72, 3) := by decide +kernel
theorem k237_42 {d : Nat} {l0 l1 l2 : Option PV} {st : List PV} {M : Mem} {Q : Option PV → Mem → Prop} {r : Nat} (hk : mK M r = 12) : WP d 237 42 [l0, l1, l2] (vr r :: st) M Q = WP d 237 45 [l0, l1, l2] (vr (mR M r 36) :: st) M Q := w_getr mC_237 d237_42 fE_12_72 rfl (by rw [hk]; rfl)
theorem d237_45 : decode cX12_keep 45 = .ok (.iload_n 1, 1) := by decide +kernel
theorem k237_45 {d : Nat} {x : Int32} {l0 l2 : Option PV} {st : List PV} {M : Mem} {Q : Option PV → Mem → Prop} : WP d 237 45 [l0, some (vi x), l2] (st) M Q = WP d 237 46 [l0, some (vi x), l2] (vi x :: st) M Q := w1 mC_237 d237_45 rfl rfl
theorem d237_46 : decode cX12_keep 46 = .ok (.iconst 0, 1) := by decide +kernel
theorem k237_46 {d : Nat} {l0 l1 l2 : Option PV} {st : List PV} {M : Mem} {Q : Option PV → Mem → Prop} : WP d 237 46 [l0, l1, l2] (st) M Q = WP d 237 47 [l0, l1, l2] (vi 0 :: st) M Q := w_iconst mC_237 d237_46 (by decide)
theorem d237_47 : decode cX12_keep 47 = .ok (.iastore, 1) := by decide +kernel
theorem k237_47 {d : Nat} {l0 l1 l2 : Option PV} {st : List PV} {M : Mem} {Q : Option PV → Mem → Prop} {r : Nat} {j x : Int32} (hk : mK M r = 13) (hj : inb j (mN M r)) (h1 : r ≠ 1) : WP d 237 47 [l0, l1, l2] (vi x :: vi j :: vr r :: st) M Q = WP d 237 48 [l0, l1, l2] (st) (sI M r (ix j) x) Q := w_iast mC_237 d237_47 hk hj h1
theorem d237_48 : decode cX12_keep 48 = .ok (.iconst 1, 1) := by decide +kernel
theorem k237_48 {d : Nat} {l0 l1 l2 : Option PV} {st : List PV} {M : Mem} {Q : Option PV → Mem → Prop} : WP d 237 48 [l0, l1, l2] (st) M Q = WP d 237 49 [l0, l1, l2] (vi 1 :: st) M Q := w_iconst mC_237 d237_48 (by decide)
theorem d237_49 : decode cX12_keep 49 = .ok (.ireturn, 1) := by decide +kernel
theorem k237_49 {d : Nat} {l0 l1 l2 : Option PV} {M : Mem} {Q : Option PV → Mem → Prop} {x : Int32} : WP d 237 49 [l0, l1, l2] ([vi x]) M Q = Q (some (vi x)) M := w_iret mC_237 d237_49 rfl
theorem d238_0 : decode cX12_row 0 = .ok (.iload_n 1, 1) := by decide +kernel
theorem k238_0 {d : Nat} {x : Int32} {l0 l2 l3 l4 : Option PV} {st : List PV} {M : Mem} {Q : Option PV → Mem → Prop} : WP d 238 0 [l0, some (vi x), l2, l3, l4] (st) M Q = WP d 238 1 [l0, some (vi x), l2, l3, l4] (vi x :: st) M Q := w1 mC_238 d238_0 rfl rfl
theorem d238_1 : decode cX12_row 1 = .ok (.invokestatic 122, 3) := by decide +kernel
theorem k238_1 {d : Nat} {l0 l1 l2 l3 l4 : Option PV} {st : List PV} {M : Mem} {Q : Option PV → Mem → Prop} {a0 : Int32} (hl : szL st ≤ 8) : WP (d + 1) 238 1 [l0, l1, l2, l3, l4] (vi a0 :: st) M Q = WP d 149 0 [some (vi a0)] [] M (fun v M' => WP (d + 1) 238 4 [l0, l1, l2, l3, l4] (psh v st) M' Q) := w_callS mC_238 d238_1 rfl rfl (Nat.le_of_ble_eq_true rfl) (by decide) rfl hl
theorem d238_4 : decode cX12_row 4 = .ok (.ifCond .eq 18, 3) := by decide +kernel
theorem k238_4 {d : Nat} {l0 l1 l2 l3 l4 : Option PV} {st : List PV} {M : Mem} {Q : Option PV → Mem → Prop} {x : Int32} : WP d 238 4 [l0, l1, l2, l3, l4] (vi x :: st) M Q = (if x = 0 then WP d 238 22 [l0, l1, l2, l3, l4] (st) M Q else WP d 238 7 [l0, l1, l2, l3, l4] (st) M Q) := w_if_eq mC_238 d238_4 (by decide)
theorem d238_7 : decode cX12_row 7 = .ok (.iload_n 2, 1) := by decide +kernel
theorem k238_7 {d : Nat} {x : Int32} {l0 l1 l3 l4 : Option PV} {st : List PV} {M : Mem} {Q : Option PV → Mem → Prop} : WP d 238 7 [l0, l1, some (vi x), l3, l4] (st) M Q = WP d 238 8 [l0, l1, some (vi x), l3, l4] (vi x :: st) M Q := w1 mC_238 d238_7 rfl rfl
theorem d238_8 : decode cX12_row 8 = .ok (.iconst 0, 1) := by decide +kernel
theorem k238_8 {d : Nat} {l0 l1 l2 l3 l4 : Option PV} {st : List PV} {M : Mem} {Q : Option PV → Mem → Prop} : WP d 238 8 [l0, l1, l2, l3, l4] (st) M Q = WP d 238 9 [l0, l1, l2, l3, l4] (vi 0 :: st) M Q := w_iconst mC_238 d238_8 (by decide)
theorem d238_9 : decode cX12_row 9 = .ok (.iconst 4, 1) := by decide +kernel
theorem k238_9 {d : Nat} {l0 l1 l2 l3 l4 : Option PV} {st : List PV} {M : Mem} {Q : Option PV → Mem → Prop} : WP d 238 9 [l0, l1, l2, l3, l4] (st) M Q = WP d 238 10 [l0, l1, l2, l3, l4] (vi 4 :: st) M Q := w_iconst mC_238 d238_9 (by decide)
theorem d238_10 : decode cX12_row 10 = .ok (.invokestatic 104, 3) := by decide +kernel
theorem k238_10 {d : Nat} {l0 l1 l2 l3 l4 : Option PV} {st : List PV} {M : Mem} {Q : Option PV → Mem → Prop} {a0 a1 a2 : Int32} (hl : szL st ≤ 8) : WP (d + 1) 238 10 [l0, l1, l2, l3, l4] (vi a2 :: vi a1 :: vi a0 :: st) M Q = WP d 145 0 [some (vi a0), some (vi a1), some (vi a2)] [] M (fun v M' => WP (d + 1) 238 13 [l0, l1, l2, l3, l4] (psh v st) M' Q) := w_callS mC_238 d238_10 rfl rfl (Nat.le_of_ble_eq_true rfl) (by decide) rfl hl
theorem d238_13 : decode cX12_row 13 = .ok (.ifCond .eq 9, 3) := by decide +kernel
theorem k238_13 {d : Nat} {l0 l1 l2 l3 l4 : Option PV} {st : List PV} {M : Mem} {Q : Option PV → Mem → Prop} {x : Int32} : WP d 238 13 [l0, l1, l2, l3, l4] (vi x :: st) M Q = (if x = 0 then WP d 238 22 [l0, l1, l2, l3, l4] (st) M Q else WP d 238 16 [l0, l1, l2, l3, l4] (st) M Q) := w_if_eq mC_238 d238_13 (by decide)
theorem d238_16 : decode cX12_row 16 = .ok (.iload_n 3, 1) := by decide +kernel
theorem k238_16 {d : Nat} {x : Int32} {l0 l1 l2 l4 : Option PV} {st : List PV} {M : Mem} {Q : Option PV → Mem → Prop} : WP d 238 16 [l0, l1, l2, some (vi x), l4] (st) M Q = WP d 238 17 [l0, l1, l2, some (vi x), l4] (vi x :: st) M Q := w1 mC_238 d238_16 rfl rfl
theorem d238_17 : decode cX12_row 17 = .ok (.bipush 60, 2) := by decide +kernel
theorem k238_17 {d : Nat} {l0 l1 l2 l3 l4 : Option PV} {st : List PV} {M : Mem} {Q : Option PV → Mem → Prop} : WP d 238 17 [l0, l1, l2, l3, l4] (st) M Q = WP d 238 19 [l0, l1, l2, l3, l4] (vi 60 :: st) M Q := w_bipush mC_238 d238_17 (by decide)
theorem d238_19 : decode cX12_row 19 = .ok (.if_icmp .le 5, 3) := by decide +kernel
theorem k238_19 {d : Nat} {l0 l1 l2 l3 l4 : Option PV} {st : List PV} {M : Mem} {Q : Option PV → Mem → Prop} {x y : Int32} : WP d 238 19 [l0, l1, l2, l3, l4] (vi y :: vi x :: st) M Q = (if x ≤ y then WP d 238 24 [l0, l1, l2, l3, l4] (st) M Q else WP d 238 22 [l0, l1, l2, l3, l4] (st) M Q) := w_ic_le mC_238 d238_19 (by decide)
theorem d238_22 : decode cX12_row 22 = .ok (.iconst (-1), 1) := by decide +kernel
theorem k238_22 {d : Nat} {l0 l1 l2 l3 l4 : Option PV} {st : List PV} {M : Mem} {Q : Option PV → Mem → Prop} : WP d 238 22 [l0, l1, l2, l3, l4] (st) M Q = WP d 238 23 [l0, l1, l2, l3, l4] (vi (-1) :: st) M Q := w_iconst mC_238 d238_22 (by decide)
theorem d238_23 : decode cX12_row 23 = .ok (.ireturn, 1) := by decide +kernel
theorem k238_23 {d : Nat} {l0 l1 l2 l3 l4 : Option PV} {M : Mem} {Q : Option PV → Mem → Prop} {x : Int32} : WP d 238 23 [l0, l1, l2, l3, l4] ([vi x]) M Q = Q (some (vi x)) M := w_iret mC_238 d238_23 rfl
theorem d238_24 : decode cX12_row 24 = .ok (.iload_n 3, 1) := by decide +kernel
theorem k238_24 {d : Nat} {x : Int32} {l0 l1 l2 l4 : Option PV} {st : List PV} {M : Mem} {Q : Option PV → Mem → Prop} : WP d 238 24 [l0, l1, l2, some (vi x), l4] (st) M Q = WP d 238 25 [l0, l1, l2, some (vi x), l4] (vi x :: st) M Q := w1 mC_238 d238_24 rfl rfl
theorem d238_25 : decode cX12_row 25 = .ok (.ifCond .ge 6, 3) := by decide +kernel
theorem k238_25 {d : Nat} {l0 l1 l2 l3 l4 : Option PV} {st : List PV} {M : Mem} {Q : Option PV → Mem → Prop} {x : Int32} : WP d 238 25 [l0, l1, l2, l3, l4] (vi x :: st) M Q = (if 0 ≤ x then WP d 238 31 [l0, l1, l2, l3, l4] (st) M Q else WP d 238 28 [l0, l1, l2, l3, l4] (st) M Q) := w_if_ge mC_238 d238_25 (by decide)
theorem d238_28 : decode cX12_row 28 = .ok (.bipush (-14), 2) := by decide +kernel
theorem k238_28 {d : Nat} {l0 l1 l2 l3 l4 : Option PV} {st : List PV} {M : Mem} {Q : Option PV → Mem → Prop} : WP d 238 28 [l0, l1, l2, l3, l4] (st) M Q = WP d 238 30 [l0, l1, l2, l3, l4] (vi (-14) :: st) M Q := w_bipush mC_238 d238_28 (by decide)
theorem d238_30 : decode cX12_row 30 = .ok (.ireturn, 1) := by decide +kernel
theorem k238_30 {d : Nat} {l0 l1 l2 l3 l4 : Option PV} {M : Mem} {Q : Option PV → Mem → Prop} {x : Int32} : WP d 238 30 [l0, l1, l2, l3, l4] ([vi x]) M Q = Q (some (vi x)) M := w_iret mC_238 d238_30 rfl
theorem d238_31 : decode cX12_row 31 = .ok (.aload_n 0, 1) := by decide +kernel
theorem k238_31 {d x : Nat} {l1 l2 l3 l4 : Option PV} {st : List PV} {M : Mem} {Q : Option PV → Mem → Prop} : WP d 238 31 [some (vr x), l1, l2, l3, l4] (st) M Q = WP d 238 32 [some (vr x), l1, l2, l3, l4] (vr x :: st) M Q := w1 mC_238 d238_31 rfl rfl
theorem d238_32 : decode cX12_row 32 = .ok (.getfield 69, 3) := by decide +kernel
theorem k238_32 {d : Nat} {l0 l1 l2 l3 l4 : Option PV} {st : List PV} {M : Mem} {Q : Option PV → Mem → Prop} {r : Nat} (hk : mK M r = 12) : WP d 238 32 [l0, l1, l2, l3, l4] (vr r :: st) M Q = WP d 238 35 [l0, l1, l2, l3, l4] (vr (mR M r 35) :: st) M Q := w_getr mC_238 d238_32 fE_12_69 rfl (by rw [hk]; rfl)
theorem d238_35 : decode cX12_row 35 = .ok (.iload_n 1, 1) := by decide +kernel
theorem k238_35 {d : Nat} {x : Int32} {l0 l2 l3 l4 : Option PV} {st : List PV} {M : Mem} {Q : Option PV → Mem → Prop} : WP d 238 35 [l0, some (vi x), l2, l3, l4] (st) M Q = WP d 238 36 [l0, some (vi x), l2, l3, l4] (vi x :: st) M Q := w1 mC_238 d238_35 rfl rfl
theorem d238_36 : decode cX12_row 36 = .ok (.iload_n 2, 1) := by decide +kernel
theorem k238_36 {d : Nat} {x : Int32} {l0 l1 l3 l4 : Option PV} {st : List PV} {M : Mem} {Q : Option PV → Mem → Prop} : WP d 238 36 [l0, l1, some (vi x), l3, l4] (st) M Q = WP d 238 37 [l0, l1, some (vi x), l3, l4] (vi x :: st) M Q := w1 mC_238 d238_36 rfl rfl
theorem d238_37 : decode cX12_row 37 = .ok (.iastore, 1) := by decide +kernel
theorem k238_37 {d : Nat} {l0 l1 l2 l3 l4 : Option PV} {st : List PV} {M : Mem} {Q : Option PV → Mem → Prop} {r : Nat} {j x : Int32} (hk : mK M r = 13) (hj : inb j (mN M r)) (h1 : r ≠ 1) : WP d 238 37 [l0, l1, l2, l3, l4] (vi x :: vi j :: vr r :: st) M Q = WP d 238 38 [l0, l1, l2, l3, l4] (st) (sI M r (ix j) x) Q := w_iast mC_238 d238_37 hk hj h1
theorem d238_38 : decode cX12_row 38 = .ok (.aload_n 0, 1) := by decide +kernel
theorem k238_38 {d x : Nat} {l1 l2 l3 l4 : Option PV} {st : List PV} {M : Mem} {Q : Option PV → Mem → Prop} : WP d 238 38 [some (vr x), l1, l2, l3, l4] (st) M Q = WP d 238 39 [some (vr x), l1, l2, l3, l4] (vr x :: st) M Q := w1 mC_238 d238_38 rfl rfl
theorem d238_39 : decode cX12_row 39 = .ok (.getfield 72, 3) := by decide +kernel
theorem k238_39 {d : Nat} {l0 l1 l2 l3 l4 : Option PV} {st : List PV} {M : Mem} {Q : Option PV → Mem → Prop} {r : Nat} (hk : mK M r = 12) : WP d 238 39 [l0, l1, l2, l3, l4] (vr r :: st) M Q = WP d 238 42 [l0, l1, l2, l3, l4] (vr (mR M r 36) :: st) M Q := w_getr mC_238 d238_39 fE_12_72 rfl (by rw [hk]; rfl)
theorem d238_42 : decode cX12_row 42 = .ok (.iload_n 1, 1) := by decide +kernel
theorem k238_42 {d : Nat} {x : Int32} {l0 l2 l3 l4 : Option PV} {st : List PV} {M : Mem} {Q : Option PV → Mem → Prop} : WP d 238 42 [l0, some (vi x), l2, l3, l4] (st) M Q = WP d 238 43 [l0, some (vi x), l2, l3, l4] (vi x :: st) M Q := w1 mC_238 d238_42 rfl rfl
theorem d238_43 : decode cX12_row 43 = .ok (.iload_n 3, 1) := by decide +kernel
theorem k238_43 {d : Nat} {x : Int32} {l0 l1 l2 l4 : Option PV} {st : List PV} {M : Mem} {Q : Option PV → Mem → Prop} : WP d 238 43 [l0, l1, l2, some (vi x), l4] (st) M Q = WP d 238 44 [l0, l1, l2, some (vi x), l4] (vi x :: st) M Q := w1 mC_238 d238_43 rfl rfl
theorem d238_44 : decode cX12_row 44 = .ok (.iastore, 1) := by decide +kernel
theorem k238_44 {d : Nat} {l0 l1 l2 l3 l4 : Option PV} {st : List PV} {M : Mem} {Q : Option PV → Mem → Prop} {r : Nat} {j x : Int32} (hk : mK M r = 13) (hj : inb j (mN M r)) (h1 : r ≠ 1) : WP d 238 44 [l0, l1, l2, l3, l4] (vi x :: vi j :: vr r :: st) M Q = WP d 238 45 [l0, l1, l2, l3, l4] (st) (sI M r (ix j) x) Q := w_iast mC_238 d238_44 hk hj h1
theorem d238_45 : decode cX12_row 45 = .ok (.iconst 0, 1) := by decide +kernel
theorem k238_45 {d : Nat} {l0 l1 l2 l3 l4 : Option PV} {st : List PV} {M : Mem} {Q : Option PV → Mem → Prop} : WP d 238 45 [l0, l1, l2, l3, l4] (st) M Q = WP d 238 46 [l0, l1, l2, l3, l4] (vi 0 :: st) M Q := w_iconst mC_238 d238_45 (by decide)
theorem d238_46 : decode cX12_row 46 = .ok (.istore 4, 2) := by decide +kernel
theorem k238_46 {d : Nat} {l0 l1 l2 l3 l4 : Option PV} {st : List PV} {M : Mem} {Q : Option PV → Mem → Prop} {x : Int32} : WP d 238 46 [l0, l1, l2, l3, l4] (vi x :: st) M Q = WP d 238 48 [l0, l1, l2, l3, some (vi x)] (st) M Q := w1 mC_238 d238_46 rfl rfl
theorem d238_48 : decode cX12_row 48 = .ok (.iload 4, 2) := by decide +kernel
theorem k238_48 {d : Nat} {x : Int32} {l0 l1 l2 l3 : Option PV} {st : List PV} {M : Mem} {Q : Option PV → Mem → Prop} : WP d 238 48 [l0, l1, l2, l3, some (vi x)] (st) M Q = WP d 238 50 [l0, l1, l2, l3, some (vi x)] (vi x :: st) M Q := w1 mC_238 d238_48 rfl rfl
theorem d238_50 : decode cX12_row 50 = .ok (.bipush 60, 2) := by decide +kernel
theorem k238_50 {d : Nat} {l0 l1 l2 l3 l4 : Option PV} {st : List PV} {M : Mem} {Q : Option PV → Mem → Prop} : WP d 238 50 [l0, l1, l2, l3, l4] (st) M Q = WP d 238 52 [l0, l1, l2, l3, l4] (vi 60 :: st) M Q := w_bipush mC_238 d238_50 (by decide)
theorem d238_52 : decode cX12_row 52 = .ok (.if_icmp .ge 22, 3) := by decide +kernel
theorem k238_52 {d : Nat} {l0 l1 l2 l3 l4 : Option PV} {st : List PV} {M : Mem} {Q : Option PV → Mem → Prop} {x y : Int32} : WP d 238 52 [l0, l1, l2, l3, l4] (vi y :: vi x :: st) M Q = (if y ≤ x then WP d 238 74 [l0, l1, l2, l3, l4] (st) M Q else WP d 238 55 [l0, l1, l2, l3, l4] (st) M Q) := w_ic_ge mC_238 d238_52 (by decide)
theorem d238_55 : decode cX12_row 55 = .ok (.aload_n 0, 1) := by decide +kernel
theorem k238_55 {d x : Nat} {l1 l2 l3 l4 : Option PV} {st : List PV} {M : Mem} {Q : Option PV → Mem → Prop} : WP d 238 55 [some (vr x), l1, l2, l3, l4] (st) M Q = WP d 238 56 [some (vr x), l1, l2, l3, l4] (vr x :: st) M Q := w1 mC_238 d238_55 rfl rfl
theorem d238_56 : decode cX12_row 56 = .ok (.getfield 75, 3) := by decide +kernel
theorem k238_56 {d : Nat} {l0 l1 l2 l3 l4 : Option PV} {st : List PV} {M : Mem} {Q : Option PV → Mem → Prop} {r : Nat} (hk : mK M r = 12) : WP d 238 56 [l0, l1, l2, l3, l4] (vr r :: st) M Q = WP d 238 59 [l0, l1, l2, l3, l4] (vr (mR M r 37) :: st) M Q := w_getr mC_238 d238_56 fE_12_75 rfl (by rw [hk]; rfl)
theorem d238_59 : decode cX12_row 59 = .ok (.bipush 60, 2) := by decide +kernel
theorem k238_59 {d : Nat} {l0 l1 l2 l3 l4 : Option PV} {st : List PV} {M : Mem} {Q : Option PV → Mem → Prop} : WP d 238 59 [l0, l1, l2, l3, l4] (st) M Q = WP d 238 61 [l0, l1, l2, l3, l4] (vi 60 :: st) M Q := w_bipush mC_238 d238_59 (by decide)
theorem d238_61 : decode cX12_row 61 = .ok (.iload_n 1, 1) := by decide +kernel
theorem k238_61 {d : Nat} {x : Int32} {l0 l2 l3 l4 : Option PV} {st : List PV} {M : Mem} {Q : Option PV → Mem → Prop} : WP d 238 61 [l0, some (vi x), l2, l3, l4] (st) M Q = WP d 238 62 [l0, some (vi x), l2, l3, l4] (vi x :: st) M Q := w1 mC_238 d238_61 rfl rfl
theorem d238_62 : decode cX12_row 62 = .ok (.imul, 1) := by decide +kernel
theorem k238_62 {d : Nat} {l0 l1 l2 l3 l4 : Option PV} {st : List PV} {M : Mem} {Q : Option PV → Mem → Prop} {x y : Int32} : WP d 238 62 [l0, l1, l2, l3, l4] (vi y :: vi x :: st) M Q = WP d 238 63 [l0, l1, l2, l3, l4] (vi (x * y) :: st) M Q := w1 mC_238 d238_62 rfl rfl
theorem d238_63 : decode cX12_row 63 = .ok (.iload 4, 2) := by decide +kernel
theorem k238_63 {d : Nat} {x : Int32} {l0 l1 l2 l3 : Option PV} {st : List PV} {M : Mem} {Q : Option PV → Mem → Prop} : WP d 238 63 [l0, l1, l2, l3, some (vi x)] (st) M Q = WP d 238 65 [l0, l1, l2, l3, some (vi x)] (vi x :: st) M Q := w1 mC_238 d238_63 rfl rfl
theorem d238_65 : decode cX12_row 65 = .ok (.iadd, 1) := by decide +kernel
theorem k238_65 {d : Nat} {l0 l1 l2 l3 l4 : Option PV} {st : List PV} {M : Mem} {Q : Option PV → Mem → Prop} {x y : Int32} : WP d 238 65 [l0, l1, l2, l3, l4] (vi y :: vi x :: st) M Q = WP d 238 66 [l0, l1, l2, l3, l4] (vi (x + y) :: st) M Q := w1 mC_238 d238_65 rfl rfl
theorem d238_66 : decode cX12_row 66 = .ok (.lconst 0, 1) := by decide +kernel
theorem k238_66 {d : Nat} {l0 l1 l2 l3 l4 : Option PV} {st : List PV} {M : Mem} {Q : Option PV → Mem → Prop} : WP d 238 66 [l0, l1, l2, l3, l4] (st) M Q = WP d 238 67 [l0, l1, l2, l3, l4] (vl 0 :: st) M Q := w_lconst mC_238 d238_66 (by decide)
theorem d238_67 : decode cX12_row 67 = .ok (.lastore, 1) := by decide +kernel
theorem k238_67 {d : Nat} {l0 l1 l2 l3 l4 : Option PV} {st : List PV} {M : Mem} {Q : Option PV → Mem → Prop} {r : Nat} {j : Int32} {x : Int64} (hk : mK M r = 14) (hj : inb j (mN M r)) (h1 : r ≠ 1) : WP d 238 67 [l0, l1, l2, l3, l4] (vl x :: vi j :: vr r :: st) M Q = WP d 238 68 [l0, l1, l2, l3, l4] (st) (sJ M r (ix j) x) Q := w_last mC_238 d238_67 hk hj h1
theorem d238_68 : decode cX12_row 68 = .ok (.iinc 4 1, 3) := by decide +kernel
theorem k238_68 {d : Nat} {x : Int32} {l0 l1 l2 l3 : Option PV} {st : List PV} {M : Mem} {Q : Option PV → Mem → Prop} : WP d 238 68 [l0, l1, l2, l3, some (vi x)] (st) M Q = WP d 238 71 [l0, l1, l2, l3, some (vi (x + 1))] (st) M Q := w_iinc mC_238 d238_68 rfl (by decide) rfl
theorem d238_71 : decode cX12_row 71 = .ok (.goto (-23), 3) := by decide +kernel
theorem k238_71 {d : Nat} {l0 l1 l2 l3 l4 : Option PV} {st : List PV} {M : Mem} {Q : Option PV → Mem → Prop} : WP d 238 71 [l0, l1, l2, l3, l4] (st) M Q = WP d 238 48 [l0, l1, l2, l3, l4] (st) M Q := w_goto mC_238 d238_71 (by decide)
theorem d238_74 : decode cX12_row 74 = .ok (.iconst 1, 1) := by decide +kernel
theorem k238_74 {d : Nat} {l0 l1 l2 l3 l4 : Option PV} {st : List PV} {M : Mem} {Q : Option PV → Mem → Prop} : WP d 238 74 [l0, l1, l2, l3, l4] (st) M Q = WP d 238 75 [l0, l1, l2, l3, l4] (vi 1 :: st) M Q := w_iconst mC_238 d238_74 (by decide)
theorem d238_75 : decode cX12_row 75 = .ok (.ireturn, 1) := by decide +kernel
theorem k238_75 {d : Nat} {l0 l1 l2 l3 l4 : Option PV} {M : Mem} {Q : Option PV → Mem → Prop} {x : Int32} : WP d 238 75 [l0, l1, l2, l3, l4] ([vi x]) M Q = Q (some (vi x)) M := w_iret mC_238 d238_75 rfl
theorem d239_0 : decode cX12_isRow 0 = .ok (.aload_n 0, 1) := by decide +kernel
theorem k239_0 {d x : Nat} {l1 : Option PV} {st : List PV} {M : Mem} {Q : Option PV → Mem → Prop} : WP d 239 0 [some (vr x), l1] (st) M Q = WP d 239 1 [some (vr x), l1] (vr x :: st) M Q := w1 mC_239 d239_0 rfl rfl
theorem d239_1 : decode cX12_isRow 1 = .ok (.getfield 69, 3) := by decide +kernel
theorem k239_1 {d : Nat} {l0 l1 : Option PV} {st : List PV} {M : Mem} {Q : Option PV → Mem → Prop} {r : Nat} (hk : mK M r = 12) : WP d 239 1 [l0, l1] (vr r :: st) M Q = WP d 239 4 [l0, l1] (vr (mR M r 35) :: st) M Q := w_getr mC_239 d239_1 fE_12_69 rfl (by rw [hk]; rfl)
theorem d239_4 : decode cX12_isRow 4 = .ok (.iload_n 1, 1) := by decide +kernel
theorem k239_4 {d : Nat} {x : Int32} {l0 : Option PV} {st : List PV} {M : Mem} {Q : Option PV → Mem → Prop} : WP d 239 4 [l0, some (vi x)] (st) M Q = WP d 239 5 [l0, some (vi x)] (vi x :: st) M Q := w1 mC_239 d239_4 rfl rfl
theorem d239_5 : decode cX12_isRow 5 = .ok (.iaload, 1) := by decide +kernel
theorem k239_5 {d : Nat} {l0 l1 : Option PV} {st : List PV} {M : Mem} {Q : Option PV → Mem → Prop} {r : Nat} {j : Int32} (hk : mK M r = 13) (hj : inb j (mN M r)) (h1 : r ≠ 1) : WP d 239 5 [l0, l1] (vi j :: vr r :: st) M Q = WP d 239 6 [l0, l1] (vi (mI M r (ix j)) :: st) M Q := w_iald mC_239 d239_5 (by decide) hk hj h1
theorem d239_6 : decode cX12_isRow 6 = .ok (.iconst 0, 1) := by decide +kernel
theorem k239_6 {d : Nat} {l0 l1 : Option PV} {st : List PV} {M : Mem} {Q : Option PV → Mem → Prop} : WP d 239 6 [l0, l1] (st) M Q = WP d 239 7 [l0, l1] (vi 0 :: st) M Q := w_iconst mC_239 d239_6 (by decide)
theorem d239_7 : decode cX12_isRow 7 = .ok (.iconst 4, 1) := by decide +kernel
theorem k239_7 {d : Nat} {l0 l1 : Option PV} {st : List PV} {M : Mem} {Q : Option PV → Mem → Prop} : WP d 239 7 [l0, l1] (st) M Q = WP d 239 8 [l0, l1] (vi 4 :: st) M Q := w_iconst mC_239 d239_7 (by decide)
theorem d239_8 : decode cX12_isRow 8 = .ok (.invokestatic 104, 3) := by decide +kernel
theorem k239_8 {d : Nat} {l0 l1 : Option PV} {st : List PV} {M : Mem} {Q : Option PV → Mem → Prop} {a0 a1 a2 : Int32} (hl : szL st ≤ 8) : WP (d + 1) 239 8 [l0, l1] (vi a2 :: vi a1 :: vi a0 :: st) M Q = WP d 145 0 [some (vi a0), some (vi a1), some (vi a2)] [] M (fun v M' => WP (d + 1) 239 11 [l0, l1] (psh v st) M' Q) := w_callS mC_239 d239_8 rfl rfl (Nat.le_of_ble_eq_true rfl) (by decide) rfl hl
theorem d239_11 : decode cX12_isRow 11 = .ok (.ireturn, 1) := by decide +kernel
theorem k239_11 {d : Nat} {l0 l1 : Option PV} {M : Mem} {Q : Option PV → Mem → Prop} {x : Int32} (hx : x = 0 ∨ x = 1) : WP d 239 11 [l0, l1] ([vi x]) M Q = Q (some (vi x)) M := w_zret mC_239 d239_11 rfl hx
theorem d240_0 : decode cX12_kept 0 = .ok (.iload_n 0, 1) := by decide +kernel
theorem k240_0 {d : Nat} {x : Int32} {l1 l2 : Option PV} {st : List PV} {M : Mem} {Q : Option PV → Mem → Prop} : WP d 240 0 [some (vi x), l1, l2] (st) M Q = WP d 240 1 [some (vi x), l1, l2] (vi x :: st) M Q := w1 mC_240 d240_0 rfl rfl
theorem d240_1 : decode cX12_kept 1 = .ok (.tableswitch 47 0 3 #[31, 36, 41, 45], 31) := by decide +kernel
theorem k240_1c0 {d : Nat} {l0 l1 l2 : Option PV} {st : List PV} {M : Mem} {Q : Option PV → Mem → Prop} : WP d 240 1 [l0, l1, l2] (vi 0 :: st) M Q = WP d 240 32 [l0, l1, l2] (st) M Q := w_sw mC_240 d240_1 (by decide +kernel)
theorem k240_1c1 {d : Nat} {l0 l1 l2 : Option PV} {st : List PV} {M : Mem} {Q : Option PV → Mem → Prop} : WP d 240 1 [l0, l1, l2] (vi 1 :: st) M Q = WP d 240 37 [l0, l1, l2] (st) M Q := w_sw mC_240 d240_1 (by decide +kernel)
theorem k240_1c2 {d : Nat} {l0 l1 l2 : Option PV} {st : List PV} {M : Mem} {Q : Option PV → Mem → Prop} : WP d 240 1 [l0, l1, l2] (vi 2 :: st) M Q = WP d 240 42 [l0, l1, l2] (st) M Q := w_sw mC_240 d240_1 (by decide +kernel)
theorem k240_1c3 {d : Nat} {l0 l1 l2 : Option PV} {st : List PV} {M : Mem} {Q : Option PV → Mem → Prop} : WP d 240 1 [l0, l1, l2] (vi 3 :: st) M Q = WP d 240 46 [l0, l1, l2] (st) M Q := w_sw mC_240 d240_1 (by decide +kernel)
theorem k240_1 {d : Nat} {l0 l1 l2 : Option PV} {st : List PV} {M : Mem} {Q : Option PV → Mem → Prop} {x : Int32} (h : x.toInt < 0 ∨ 3 < x.toInt) : WP d 240 1 [l0, l1, l2] (vi x :: st) M Q = WP d 240 48 [l0, l1, l2] (st) M Q := w_swd mC_240 d240_1 (by decide) h
theorem d240_32 : decode cX12_kept 32 = .ok (.lload_n 1, 1) := by decide +kernel
theorem k240_32 {d : Nat} {x : Int64} {l0 : Option PV} {st : List PV} {M : Mem} {Q : Option PV → Mem → Prop} : WP d 240 32 [l0, some (vl x), none] (st) M Q = WP d 240 33 [l0, some (vl x), none] (vl x :: st) M Q := w1 mC_240 d240_32 rfl rfl
theorem d240_33 : decode cX12_kept 33 = .ok (.l2i, 1) := by decide +kernel
theorem k240_33 {d : Nat} {l0 l1 l2 : Option PV} {st : List PV} {M : Mem} {Q : Option PV → Mem → Prop} {x : Int64} : WP d 240 33 [l0, l1, l2] (vl x :: st) M Q = WP d 240 34 [l0, l1, l2] (vi x.toInt32 :: st) M Q := w1 mC_240 d240_33 rfl rfl
theorem d240_34 : decode cX12_kept 34 = .ok (.i2b, 1) := by decide +kernel
theorem k240_34 {d : Nat} {l0 l1 l2 : Option PV} {st : List PV} {M : Mem} {Q : Option PV → Mem → Prop} {x : Int32} : WP d 240 34 [l0, l1, l2] (vi x :: st) M Q = WP d 240 35 [l0, l1, l2] (vi x.toInt8.toInt32 :: st) M Q := w1 mC_240 d240_34 rfl rfl
theorem d240_35 : decode cX12_kept 35 = .ok (.i2l, 1) := by decide +kernel
theorem k240_35 {d : Nat} {l0 l1 l2 : Option PV} {st : List PV} {M : Mem} {Q : Option PV → Mem → Prop} {x : Int32} : WP d 240 35 [l0, l1, l2] (vi x :: st) M Q = WP d 240 36 [l0, l1, l2] (vl x.toInt64 :: st) M Q := w1 mC_240 d240_35 rfl rfl
theorem d240_36 : decode cX12_kept 36 = .ok (.lreturn, 1) := by decide +kernel
theorem k240_36 {d : Nat} {l0 l1 l2 : Option PV} {M : Mem} {Q : Option PV → Mem → Prop} {x : Int64} : WP d 240 36 [l0, l1, l2] ([vl x]) M Q = Q (some (vl x)) M := w_lret mC_240 d240_36 rfl
theorem d240_37 : decode cX12_kept 37 = .ok (.lload_n 1, 1) := by decide +kernel
theorem k240_37 {d : Nat} {x : Int64} {l0 : Option PV} {st : List PV} {M : Mem} {Q : Option PV → Mem → Prop} : WP d 240 37 [l0, some (vl x), none] (st) M Q = WP d 240 38 [l0, some (vl x), none] (vl x :: st) M Q := w1 mC_240 d240_37 rfl rfl
theorem d240_38 : decode cX12_kept 38 = .ok (.l2i, 1) := by decide +kernel
theorem k240_38 {d : Nat} {l0 l1 l2 : Option PV} {st : List PV} {M : Mem} {Q : Option PV → Mem → Prop} {x : Int64} : WP d 240 38 [l0, l1, l2] (vl x :: st) M Q = WP d 240 39 [l0, l1, l2] (vi x.toInt32 :: st) M Q := w1 mC_240 d240_38 rfl rfl
theorem d240_39 : decode cX12_kept 39 = .ok (.i2s, 1) := by decide +kernel
theorem k240_39 {d : Nat} {l0 l1 l2 : Option PV} {st : List PV} {M : Mem} {Q : Option PV → Mem → Prop} {x : Int32} : WP d 240 39 [l0, l1, l2] (vi x :: st) M Q = WP d 240 40 [l0, l1, l2] (vi x.toInt16.toInt32 :: st) M Q := w1 mC_240 d240_39 rfl rfl
theorem d240_40 : decode cX12_kept 40 = .ok (.i2l, 1) := by decide +kernel
theorem k240_40 {d : Nat} {l0 l1 l2 : Option PV} {st : List PV} {M : Mem} {Q : Option PV → Mem → Prop} {x : Int32} : WP d 240 40 [l0, l1, l2] (vi x :: st) M Q = WP d 240 41 [l0, l1, l2] (vl x.toInt64 :: st) M Q := w1 mC_240 d240_40 rfl rfl
theorem d240_41 : decode cX12_kept 41 = .ok (.lreturn, 1) := by decide +kernel
theorem k240_41 {d : Nat} {l0 l1 l2 : Option PV} {M : Mem} {Q : Option PV → Mem → Prop} {x : Int64} : WP d 240 41 [l0, l1, l2] ([vl x]) M Q = Q (some (vl x)) M := w_lret mC_240 d240_41 rfl
theorem d240_42 : decode cX12_kept 42 = .ok (.lload_n 1, 1) := by decide +kernel
theorem k240_42 {d : Nat} {x : Int64} {l0 : Option PV} {st : List PV} {M : Mem} {Q : Option PV → Mem → Prop} : WP d 240 42 [l0, some (vl x), none] (st) M Q = WP d 240 43 [l0, some (vl x), none] (vl x :: st) M Q := w1 mC_240 d240_42 rfl rfl
theorem d240_43 : decode cX12_kept 43 = .ok (.l2i, 1) := by decide +kernel
theorem k240_43 {d : Nat} {l0 l1 l2 : Option PV} {st : List PV} {M : Mem} {Q : Option PV → Mem → Prop} {x : Int64} : WP d 240 43 [l0, l1, l2] (vl x :: st) M Q = WP d 240 44 [l0, l1, l2] (vi x.toInt32 :: st) M Q := w1 mC_240 d240_43 rfl rfl
theorem d240_44 : decode cX12_kept 44 = .ok (.i2l, 1) := by decide +kernel
theorem k240_44 {d : Nat} {l0 l1 l2 : Option PV} {st : List PV} {M : Mem} {Q : Option PV → Mem → Prop} {x : Int32} : WP d 240 44 [l0, l1, l2] (vi x :: st) M Q = WP d 240 45 [l0, l1, l2] (vl x.toInt64 :: st) M Q := w1 mC_240 d240_44 rfl rfl
theorem d240_45 : decode cX12_kept 45 = .ok (.lreturn, 1) := by decide +kernel
theorem k240_45 {d : Nat} {l0 l1 l2 : Option PV} {M : Mem} {Q : Option PV → Mem → Prop} {x : Int64} : WP d 240 45 [l0, l1, l2] ([vl x]) M Q = Q (some (vl x)) M := w_lret mC_240 d240_45 rfl
theorem d240_46 : decode cX12_kept 46 = .ok (.lload_n 1, 1) := by decide +kernel
theorem k240_46 {d : Nat} {x : Int64} {l0 : Option PV} {st : List PV} {M : Mem} {Q : Option PV → Mem → Prop} : WP d 240 46 [l0, some (vl x), none] (st) M Q = WP d 240 47 [l0, some (vl x), none] (vl x :: st) M Q := w1 mC_240 d240_46 rfl rfl
theorem d240_47 : decode cX12_kept 47 = .ok (.lreturn, 1) := by decide +kernel
theorem k240_47 {d : Nat} {l0 l1 l2 : Option PV} {M : Mem} {Q : Option PV → Mem → Prop} {x : Int64} : WP d 240 47 [l0, l1, l2] ([vl x]) M Q = Q (some (vl x)) M := w_lret mC_240 d240_47 rfl
theorem d240_48 : decode cX12_kept 48 = .ok (.lload_n 1, 1) := by decide +kernel
theorem k240_48 {d : Nat} {x : Int64} {l0 : Option PV} {st : List PV} {M : Mem} {Q : Option PV → Mem → Prop} : WP d 240 48 [l0, some (vl x), none] (st) M Q = WP d 240 49 [l0, some (vl x), none] (vl x :: st) M Q := w1 mC_240 d240_48 rfl rfl
theorem d240_49 : decode cX12_kept 49 = .ok (.lconst 0, 1) := by decide +kernel
theorem k240_49 {d : Nat} {l0 l1 l2 : Option PV} {st : List PV} {M : Mem} {Q : Option PV → Mem → Prop} : WP d 240 49 [l0, l1, l2] (st) M Q = WP d 240 50 [l0, l1, l2] (vl 0 :: st) M Q := w_lconst mC_240 d240_49 (by decide)
theorem d240_50 : decode cX12_kept 50 = .ok (.lcmp, 1) := by decide +kernel
theorem k240_50 {d : Nat} {l0 l1 l2 : Option PV} {st : List PV} {M : Mem} {Q : Option PV → Mem → Prop} {x y : Int64} : WP d 240 50 [l0, l1, l2] (vl y :: vl x :: st) M Q = WP d 240 51 [l0, l1, l2] (vi (lg_cmp x y) :: st) M Q := w1 mC_240 d240_50 rfl rfl
theorem d240_51 : decode cX12_kept 51 = .ok (.ifCond .eq 7, 3) := by decide +kernel
theorem k240_51 {d : Nat} {l0 l1 l2 : Option PV} {st : List PV} {M : Mem} {Q : Option PV → Mem → Prop} {x : Int32} : WP d 240 51 [l0, l1, l2] (vi x :: st) M Q = (if x = 0 then WP d 240 58 [l0, l1, l2] (st) M Q else WP d 240 54 [l0, l1, l2] (st) M Q) := w_if_eq mC_240 d240_51 (by decide)
theorem d240_54 : decode cX12_kept 54 = .ok (.lconst 1, 1) := by decide +kernel
theorem k240_54 {d : Nat} {l0 l1 l2 : Option PV} {st : List PV} {M : Mem} {Q : Option PV → Mem → Prop} : WP d 240 54 [l0, l1, l2] (st) M Q = WP d 240 55 [l0, l1, l2] (vl 1 :: st) M Q := w_lconst mC_240 d240_54 (by decide)
theorem d240_55 : decode cX12_kept 55 = .ok (.goto 4, 3) := by decide +kernel
theorem k240_55 {d : Nat} {l0 l1 l2 : Option PV} {st : List PV} {M : Mem} {Q : Option PV → Mem → Prop} : WP d 240 55 [l0, l1, l2] (st) M Q = WP d 240 59 [l0, l1, l2] (st) M Q := w_goto mC_240 d240_55 (by decide)
theorem d240_58 : decode cX12_kept 58 = .ok (.lconst 0, 1) := by decide +kernel
theorem k240_58 {d : Nat} {l0 l1 l2 : Option PV} {st : List PV} {M : Mem} {Q : Option PV → Mem → Prop} : WP d 240 58 [l0, l1, l2] (st) M Q = WP d 240 59 [l0, l1, l2] (vl 0 :: st) M Q := w_lconst mC_240 d240_58 (by decide)
theorem d240_59 : decode cX12_kept 59 = .ok (.lreturn, 1) := by decide +kernel
theorem k240_59 {d : Nat} {l0 l1 l2 : Option PV} {M : Mem} {Q : Option PV → Mem → Prop} {x : Int64} : WP d 240 59 [l0, l1, l2] ([vl x]) M Q = Q (some (vl x)) M := w_lret mC_240 d240_59 rfl
theorem d241_0 : decode cX12_put 0 = .ok (.iload_n 1, 1) := by decide +kernel
theorem k241_0 {d : Nat} {x : Int32} {l0 l2 l3 l4 : Option PV} {st : List PV} {M : Mem} {Q : Option PV → Mem → Prop} : WP d 241 0 [l0, some (vi x), l2, l3, l4] (st) M Q = WP d 241 1 [l0, some (vi x), l2, l3, l4] (vi x :: st) M Q := w1 mC_241 d241_0 rfl rfl
theorem d241_1 : decode cX12_put 1 = .ok (.invokestatic 122, 3) := by decide +kernel
theorem k241_1 {d : Nat} {l0 l1 l2 l3 l4 : Option PV} {st : List PV} {M : Mem} {Q : Option PV → Mem → Prop} {a0 : Int32} (hl : szL st ≤ 8) : WP (d + 1) 241 1 [l0, l1, l2, l3, l4] (vi a0 :: st) M Q = WP d 149 0 [some (vi a0)] [] M (fun v M' => WP (d + 1) 241 4 [l0, l1, l2, l3, l4] (psh v st) M' Q) := w_callS mC_241 d241_1 rfl rfl (Nat.le_of_ble_eq_true rfl) (by decide) rfl hl
theorem d241_4 : decode cX12_put 4 = .ok (.ifCond .ne 5, 3) := by decide +kernel
theorem k241_4 {d : Nat} {l0 l1 l2 l3 l4 : Option PV} {st : List PV} {M : Mem} {Q : Option PV → Mem → Prop} {x : Int32} : WP d 241 4 [l0, l1, l2, l3, l4] (vi x :: st) M Q = (if x = 0 then WP d 241 7 [l0, l1, l2, l3, l4] (st) M Q else WP d 241 9 [l0, l1, l2, l3, l4] (st) M Q) := w_if_ne mC_241 d241_4 (by decide)
theorem d241_7 : decode cX12_put 7 = .ok (.iconst (-1), 1) := by decide +kernel
theorem k241_7 {d : Nat} {l0 l1 l2 l3 l4 : Option PV} {st : List PV} {M : Mem} {Q : Option PV → Mem → Prop} : WP d 241 7 [l0, l1, l2, l3, l4] (st) M Q = WP d 241 8 [l0, l1, l2, l3, l4] (vi (-1) :: st) M Q := w_iconst mC_241 d241_7 (by decide)
theorem d241_8 : decode cX12_put 8 = .ok (.ireturn, 1) := by decide +kernel
theorem k241_8 {d : Nat} {l0 l1 l2 l3 l4 : Option PV} {M : Mem} {Q : Option PV → Mem → Prop} {x : Int32} : WP d 241 8 [l0, l1, l2, l3, l4] ([vi x]) M Q = Q (some (vi x)) M := w_iret mC_241 d241_8 rfl
theorem d241_9 : decode cX12_put 9 = .ok (.aload_n 0, 1) := by decide +kernel
theorem k241_9 {d x : Nat} {l1 l2 l3 l4 : Option PV} {st : List PV} {M : Mem} {Q : Option PV → Mem → Prop} : WP d 241 9 [some (vr x), l1, l2, l3, l4] (st) M Q = WP d 241 10 [some (vr x), l1, l2, l3, l4] (vr x :: st) M Q := w1 mC_241 d241_9 rfl rfl
theorem d241_10 : decode cX12_put 10 = .ok (.getfield 69, 3) := by decide +kernel
theorem k241_10 {d : Nat} {l0 l1 l2 l3 l4 : Option PV} {st : List PV} {M : Mem} {Q : Option PV → Mem → Prop} {r : Nat} (hk : mK M r = 12) : WP d 241 10 [l0, l1, l2, l3, l4] (vr r :: st) M Q = WP d 241 13 [l0, l1, l2, l3, l4] (vr (mR M r 35) :: st) M Q := w_getr mC_241 d241_10 fE_12_69 rfl (by rw [hk]; rfl)
theorem d241_13 : decode cX12_put 13 = .ok (.iload_n 1, 1) := by decide +kernel
theorem k241_13 {d : Nat} {x : Int32} {l0 l2 l3 l4 : Option PV} {st : List PV} {M : Mem} {Q : Option PV → Mem → Prop} : WP d 241 13 [l0, some (vi x), l2, l3, l4] (st) M Q = WP d 241 14 [l0, some (vi x), l2, l3, l4] (vi x :: st) M Q := w1 mC_241 d241_13 rfl rfl
theorem d241_14 : decode cX12_put 14 = .ok (.iaload, 1) := by decide +kernel
theorem k241_14 {d : Nat} {l0 l1 l2 l3 l4 : Option PV} {st : List PV} {M : Mem} {Q : Option PV → Mem → Prop} {r : Nat} {j : Int32} (hk : mK M r = 13) (hj : inb j (mN M r)) (h1 : r ≠ 1) : WP d 241 14 [l0, l1, l2, l3, l4] (vi j :: vr r :: st) M Q = WP d 241 15 [l0, l1, l2, l3, l4] (vi (mI M r (ix j)) :: st) M Q := w_iald mC_241 d241_14 (by decide) hk hj h1
theorem d241_15 : decode cX12_put 15 = .ok (.iconst (-1), 1) := by decide +kernel
theorem k241_15 {d : Nat} {l0 l1 l2 l3 l4 : Option PV} {st : List PV} {M : Mem} {Q : Option PV → Mem → Prop} : WP d 241 15 [l0, l1, l2, l3, l4] (st) M Q = WP d 241 16 [l0, l1, l2, l3, l4] (vi (-1) :: st) M Q := w_iconst mC_241 d241_15 (by decide)
theorem d241_16 : decode cX12_put 16 = .ok (.if_icmp .ne 6, 3) := by decide +kernel
theorem k241_16 {d : Nat} {l0 l1 l2 l3 l4 : Option PV} {st : List PV} {M : Mem} {Q : Option PV → Mem → Prop} {x y : Int32} : WP d 241 16 [l0, l1, l2, l3, l4] (vi y :: vi x :: st) M Q = (if x = y then WP d 241 19 [l0, l1, l2, l3, l4] (st) M Q else WP d 241 22 [l0, l1, l2, l3, l4] (st) M Q) := w_ic_ne mC_241 d241_16 (by decide)
theorem d241_19 : decode cX12_put 19 = .ok (.bipush (-11), 2) := by decide +kernel
theorem k241_19 {d : Nat} {l0 l1 l2 l3 l4 : Option PV} {st : List PV} {M : Mem} {Q : Option PV → Mem → Prop} : WP d 241 19 [l0, l1, l2, l3, l4] (st) M Q = WP d 241 21 [l0, l1, l2, l3, l4] (vi (-11) :: st) M Q := w_bipush mC_241 d241_19 (by decide)
theorem d241_21 : decode cX12_put 21 = .ok (.ireturn, 1) := by decide +kernel
theorem k241_21 {d : Nat} {l0 l1 l2 l3 l4 : Option PV} {M : Mem} {Q : Option PV → Mem → Prop} {x : Int32} : WP d 241 21 [l0, l1, l2, l3, l4] ([vi x]) M Q = Q (some (vi x)) M := w_iret mC_241 d241_21 rfl
theorem d241_22 : decode cX12_put 22 = .ok (.aload_n 0, 1) := by decide +kernel
theorem k241_22 {d x : Nat} {l1 l2 l3 l4 : Option PV} {st : List PV} {M : Mem} {Q : Option PV → Mem → Prop} : WP d 241 22 [some (vr x), l1, l2, l3, l4] (st) M Q = WP d 241 23 [some (vr x), l1, l2, l3, l4] (vr x :: st) M Q := w1 mC_241 d241_22 rfl rfl
theorem d241_23 : decode cX12_put 23 = .ok (.iload_n 1, 1) := by decide +kernel
theorem k241_23 {d : Nat} {x : Int32} {l0 l2 l3 l4 : Option PV} {st : List PV} {M : Mem} {Q : Option PV → Mem → Prop} : WP d 241 23 [l0, some (vi x), l2, l3, l4] (st) M Q = WP d 241 24 [l0, some (vi x), l2, l3, l4] (vi x :: st) M Q := w1 mC_241 d241_23 rfl rfl
theorem d241_24 : decode cX12_put 24 = .ok (.invokevirtual 365, 3) := by decide +kernel
theorem k241_24 {d : Nat} {l0 l1 l2 l3 l4 : Option PV} {st : List PV} {M : Mem} {Q : Option PV → Mem → Prop} {a0 : Int32} {r : Nat} (hl : szL st ≤ 8) (hk : mK M r = 12) : WP (d + 1) 241 24 [l0, l1, l2, l3, l4] (vi a0 :: vr r :: st) M Q = WP d 239 0 [some (vr r), some (vi a0)] [] M (fun v M' => WP (d + 1) 241 27 [l0, l1, l2, l3, l4] (psh v st) M' Q) := w_callV mC_241 d241_24 (ci := 12) rfl rfl rfl (Nat.le_of_ble_eq_true rfl) (by decide) rfl hl hk
theorem d241_27 : decode cX12_put 27 = .ok (.ifCond .ne 6, 3) := by decide +kernel
theorem k241_27 {d : Nat} {l0 l1 l2 l3 l4 : Option PV} {st : List PV} {M : Mem} {Q : Option PV → Mem → Prop} {x : Int32} : WP d 241 27 [l0, l1, l2, l3, l4] (vi x :: st) M Q = (if x = 0 then WP d 241 30 [l0, l1, l2, l3, l4] (st) M Q else WP d 241 33 [l0, l1, l2, l3, l4] (st) M Q) := w_if_ne mC_241 d241_27 (by decide)
theorem d241_30 : decode cX12_put 30 = .ok (.bipush (-12), 2) := by decide +kernel
theorem k241_30 {d : Nat} {l0 l1 l2 l3 l4 : Option PV} {st : List PV} {M : Mem} {Q : Option PV → Mem → Prop} : WP d 241 30 [l0, l1, l2, l3, l4] (st) M Q = WP d 241 32 [l0, l1, l2, l3, l4] (vi (-12) :: st) M Q := w_bipush mC_241 d241_30 (by decide)
theorem d241_32 : decode cX12_put 32 = .ok (.ireturn, 1) := by decide +kernel
theorem k241_32 {d : Nat} {l0 l1 l2 l3 l4 : Option PV} {M : Mem} {Q : Option PV → Mem → Prop} {x : Int32} : WP d 241 32 [l0, l1, l2, l3, l4] ([vi x]) M Q = Q (some (vi x)) M := w_iret mC_241 d241_32 rfl
theorem d241_33 : decode cX12_put 33 = .ok (.iload_n 2, 1) := by decide +kernel
theorem k241_33 {d : Nat} {x : Int32} {l0 l1 l3 l4 : Option PV} {st : List PV} {M : Mem} {Q : Option PV → Mem → Prop} : WP d 241 33 [l0, l1, some (vi x), l3, l4] (st) M Q = WP d 241 34 [l0, l1, some (vi x), l3, l4] (vi x :: st) M Q := w1 mC_241 d241_33 rfl rfl
theorem d241_34 : decode cX12_put 34 = .ok (.iconst 0, 1) := by decide +kernel
theorem k241_34 {d : Nat} {l0 l1 l2 l3 l4 : Option PV} {st : List PV} {M : Mem} {Q : Option PV → Mem → Prop} : WP d 241 34 [l0, l1, l2, l3, l4] (st) M Q = WP d 241 35 [l0, l1, l2, l3, l4] (vi 0 :: st) M Q := w_iconst mC_241 d241_34 (by decide)
theorem d241_35 : decode cX12_put 35 = .ok (.aload_n 0, 1) := by decide +kernel
theorem k241_35 {d x : Nat} {l1 l2 l3 l4 : Option PV} {st : List PV} {M : Mem} {Q : Option PV → Mem → Prop} : WP d 241 35 [some (vr x), l1, l2, l3, l4] (st) M Q = WP d 241 36 [some (vr x), l1, l2, l3, l4] (vr x :: st) M Q := w1 mC_241 d241_35 rfl rfl
theorem d241_36 : decode cX12_put 36 = .ok (.getfield 72, 3) := by decide +kernel
theorem k241_36 {d : Nat} {l0 l1 l2 l3 l4 : Option PV} {st : List PV} {M : Mem} {Q : Option PV → Mem → Prop} {r : Nat} (hk : mK M r = 12) : WP d 241 36 [l0, l1, l2, l3, l4] (vr r :: st) M Q = WP d 241 39 [l0, l1, l2, l3, l4] (vr (mR M r 36) :: st) M Q := w_getr mC_241 d241_36 fE_12_72 rfl (by rw [hk]; rfl)
theorem d241_39 : decode cX12_put 39 = .ok (.iload_n 1, 1) := by decide +kernel
theorem k241_39 {d : Nat} {x : Int32} {l0 l2 l3 l4 : Option PV} {st : List PV} {M : Mem} {Q : Option PV → Mem → Prop} : WP d 241 39 [l0, some (vi x), l2, l3, l4] (st) M Q = WP d 241 40 [l0, some (vi x), l2, l3, l4] (vi x :: st) M Q := w1 mC_241 d241_39 rfl rfl
theorem d241_40 : decode cX12_put 40 = .ok (.iaload, 1) := by decide +kernel
theorem k241_40 {d : Nat} {l0 l1 l2 l3 l4 : Option PV} {st : List PV} {M : Mem} {Q : Option PV → Mem → Prop} {r : Nat} {j : Int32} (hk : mK M r = 13) (hj : inb j (mN M r)) (h1 : r ≠ 1) : WP d 241 40 [l0, l1, l2, l3, l4] (vi j :: vr r :: st) M Q = WP d 241 41 [l0, l1, l2, l3, l4] (vi (mI M r (ix j)) :: st) M Q := w_iald mC_241 d241_40 (by decide) hk hj h1
theorem d241_41 : decode cX12_put 41 = .ok (.iconst 1, 1) := by decide +kernel
theorem k241_41 {d : Nat} {l0 l1 l2 l3 l4 : Option PV} {st : List PV} {M : Mem} {Q : Option PV → Mem → Prop} : WP d 241 41 [l0, l1, l2, l3, l4] (st) M Q = WP d 241 42 [l0, l1, l2, l3, l4] (vi 1 :: st) M Q := w_iconst mC_241 d241_41 (by decide)
theorem d241_42 : decode cX12_put 42 = .ok (.isub, 1) := by decide +kernel
theorem k241_42 {d : Nat} {l0 l1 l2 l3 l4 : Option PV} {st : List PV} {M : Mem} {Q : Option PV → Mem → Prop} {x y : Int32} : WP d 241 42 [l0, l1, l2, l3, l4] (vi y :: vi x :: st) M Q = WP d 241 43 [l0, l1, l2, l3, l4] (vi (x - y) :: st) M Q := w1 mC_241 d241_42 rfl rfl
theorem d241_43 : decode cX12_put 43 = .ok (.invokestatic 104, 3) := by decide +kernel
theorem k241_43 {d : Nat} {l0 l1 l2 l3 l4 : Option PV} {st : List PV} {M : Mem} {Q : Option PV → Mem → Prop} {a0 a1 a2 : Int32} (hl : szL st ≤ 8) : WP (d + 1) 241 43 [l0, l1, l2, l3, l4] (vi a2 :: vi a1 :: vi a0 :: st) M Q = WP d 145 0 [some (vi a0), some (vi a1), some (vi a2)] [] M (fun v M' => WP (d + 1) 241 46 [l0, l1, l2, l3, l4] (psh v st) M' Q) := w_callS mC_241 d241_43 rfl rfl (Nat.le_of_ble_eq_true rfl) (by decide) rfl hl
theorem d241_46 : decode cX12_put 46 = .ok (.ifCond .ne 6, 3) := by decide +kernel
theorem k241_46 {d : Nat} {l0 l1 l2 l3 l4 : Option PV} {st : List PV} {M : Mem} {Q : Option PV → Mem → Prop} {x : Int32} : WP d 241 46 [l0, l1, l2, l3, l4] (vi x :: st) M Q = (if x = 0 then WP d 241 49 [l0, l1, l2, l3, l4] (st) M Q else WP d 241 52 [l0, l1, l2, l3, l4] (st) M Q) := w_if_ne mC_241 d241_46 (by decide)
theorem d241_49 : decode cX12_put 49 = .ok (.bipush (-13), 2) := by decide +kernel
theorem k241_49 {d : Nat} {l0 l1 l2 l3 l4 : Option PV} {st : List PV} {M : Mem} {Q : Option PV → Mem → Prop} : WP d 241 49 [l0, l1, l2, l3, l4] (st) M Q = WP d 241 51 [l0, l1, l2, l3, l4] (vi (-13) :: st) M Q := w_bipush mC_241 d241_49 (by decide)
theorem d241_51 : decode cX12_put 51 = .ok (.ireturn, 1) := by decide +kernel
theorem k241_51 {d : Nat} {l0 l1 l2 l3 l4 : Option PV} {M : Mem} {Q : Option PV → Mem → Prop} {x : Int32} : WP d 241 51 [l0, l1, l2, l3, l4] ([vi x]) M Q = Q (some (vi x)) M := w_iret mC_241 d241_51 rfl
theorem d241_52 : decode cX12_put 52 = .ok (.aload_n 0, 1) := by decide +kernel
theorem k241_52 {d x : Nat} {l1 l2 l3 l4 : Option PV} {st : List PV} {M : Mem} {Q : Option PV → Mem → Prop} : WP d 241 52 [some (vr x), l1, l2, l3, l4] (st) M Q = WP d 241 53 [some (vr x), l1, l2, l3, l4] (vr x :: st) M Q := w1 mC_241 d241_52 rfl rfl
theorem d241_53 : decode cX12_put 53 = .ok (.getfield 75, 3) := by decide +kernel
theorem k241_53 {d : Nat} {l0 l1 l2 l3 l4 : Option PV} {st : List PV} {M : Mem} {Q : Option PV → Mem → Prop} {r : Nat} (hk : mK M r = 12) : WP d 241 53 [l0, l1, l2, l3, l4] (vr r :: st) M Q = WP d 241 56 [l0, l1, l2, l3, l4] (vr (mR M r 37) :: st) M Q := w_getr mC_241 d241_53 fE_12_75 rfl (by rw [hk]; rfl)
theorem d241_56 : decode cX12_put 56 = .ok (.bipush 60, 2) := by decide +kernel
theorem k241_56 {d : Nat} {l0 l1 l2 l3 l4 : Option PV} {st : List PV} {M : Mem} {Q : Option PV → Mem → Prop} : WP d 241 56 [l0, l1, l2, l3, l4] (st) M Q = WP d 241 58 [l0, l1, l2, l3, l4] (vi 60 :: st) M Q := w_bipush mC_241 d241_56 (by decide)
theorem d241_58 : decode cX12_put 58 = .ok (.iload_n 1, 1) := by decide +kernel
theorem k241_58 {d : Nat} {x : Int32} {l0 l2 l3 l4 : Option PV} {st : List PV} {M : Mem} {Q : Option PV → Mem → Prop} : WP d 241 58 [l0, some (vi x), l2, l3, l4] (st) M Q = WP d 241 59 [l0, some (vi x), l2, l3, l4] (vi x :: st) M Q := w1 mC_241 d241_58 rfl rfl
theorem d241_59 : decode cX12_put 59 = .ok (.imul, 1) := by decide +kernel
theorem k241_59 {d : Nat} {l0 l1 l2 l3 l4 : Option PV} {st : List PV} {M : Mem} {Q : Option PV → Mem → Prop} {x y : Int32} : WP d 241 59 [l0, l1, l2, l3, l4] (vi y :: vi x :: st) M Q = WP d 241 60 [l0, l1, l2, l3, l4] (vi (x * y) :: st) M Q := w1 mC_241 d241_59 rfl rfl
theorem d241_60 : decode cX12_put 60 = .ok (.iload_n 2, 1) := by decide +kernel
theorem k241_60 {d : Nat} {x : Int32} {l0 l1 l3 l4 : Option PV} {st : List PV} {M : Mem} {Q : Option PV → Mem → Prop} : WP d 241 60 [l0, l1, some (vi x), l3, l4] (st) M Q = WP d 241 61 [l0, l1, some (vi x), l3, l4] (vi x :: st) M Q := w1 mC_241 d241_60 rfl rfl
theorem d241_61 : decode cX12_put 61 = .ok (.iadd, 1) := by decide +kernel
theorem k241_61 {d : Nat} {l0 l1 l2 l3 l4 : Option PV} {st : List PV} {M : Mem} {Q : Option PV → Mem → Prop} {x y : Int32} : WP d 241 61 [l0, l1, l2, l3, l4] (vi y :: vi x :: st) M Q = WP d 241 62 [l0, l1, l2, l3, l4] (vi (x + y) :: st) M Q := w1 mC_241 d241_61 rfl rfl
theorem d241_62 : decode cX12_put 62 = .ok (.aload_n 0, 1) := by decide +kernel
theorem k241_62 {d x : Nat} {l1 l2 l3 l4 : Option PV} {st : List PV} {M : Mem} {Q : Option PV → Mem → Prop} : WP d 241 62 [some (vr x), l1, l2, l3, l4] (st) M Q = WP d 241 63 [some (vr x), l1, l2, l3, l4] (vr x :: st) M Q := w1 mC_241 d241_62 rfl rfl
theorem d241_63 : decode cX12_put 63 = .ok (.getfield 69, 3) := by decide +kernel
theorem k241_63 {d : Nat} {l0 l1 l2 l3 l4 : Option PV} {st : List PV} {M : Mem} {Q : Option PV → Mem → Prop} {r : Nat} (hk : mK M r = 12) : WP d 241 63 [l0, l1, l2, l3, l4] (vr r :: st) M Q = WP d 241 66 [l0, l1, l2, l3, l4] (vr (mR M r 35) :: st) M Q := w_getr mC_241 d241_63 fE_12_69 rfl (by rw [hk]; rfl)
theorem d241_66 : decode cX12_put 66 = .ok (.iload_n 1, 1) := by decide +kernel
theorem k241_66 {d : Nat} {x : Int32} {l0 l2 l3 l4 : Option PV} {st : List PV} {M : Mem} {Q : Option PV → Mem → Prop} : WP d 241 66 [l0, some (vi x), l2, l3, l4] (st) M Q = WP d 241 67 [l0, some (vi x), l2, l3, l4] (vi x :: st) M Q := w1 mC_241 d241_66 rfl rfl
theorem d241_67 : decode cX12_put 67 = .ok (.iaload, 1) := by decide +kernel
theorem k241_67 {d : Nat} {l0 l1 l2 l3 l4 : Option PV} {st : List PV} {M : Mem} {Q : Option PV → Mem → Prop} {r : Nat} {j : Int32} (hk : mK M r = 13) (hj : inb j (mN M r)) (h1 : r ≠ 1) : WP d 241 67 [l0, l1, l2, l3, l4] (vi j :: vr r :: st) M Q = WP d 241 68 [l0, l1, l2, l3, l4] (vi (mI M r (ix j)) :: st) M Q := w_iald mC_241 d241_67 (by decide) hk hj h1
theorem d241_68 : decode cX12_put 68 = .ok (.lload_n 3, 1) := by decide +kernel
theorem k241_68 {d : Nat} {x : Int64} {l0 l1 l2 : Option PV} {st : List PV} {M : Mem} {Q : Option PV → Mem → Prop} : WP d 241 68 [l0, l1, l2, some (vl x), none] (st) M Q = WP d 241 69 [l0, l1, l2, some (vl x), none] (vl x :: st) M Q := w1 mC_241 d241_68 rfl rfl
theorem d241_69 : decode cX12_put 69 = .ok (.invokestatic 368, 3) := by decide +kernel
theorem k241_69 {d : Nat} {l0 l1 l2 l3 l4 : Option PV} {st : List PV} {M : Mem} {Q : Option PV → Mem → Prop} {a0 : Int32} {a1 : Int64} (hl : szL st ≤ 8) : WP (d + 1) 241 69 [l0, l1, l2, l3, l4] (vl a1 :: vi a0 :: st) M Q = WP d 240 0 [some (vi a0), some (vl a1), none] [] M (fun v M' => WP (d + 1) 241 72 [l0, l1, l2, l3, l4] (psh v st) M' Q) := w_callS mC_241 d241_69 rfl rfl (Nat.le_of_ble_eq_true rfl) (by decide) rfl hl
theorem d241_72 : decode cX12_put 72 = .ok (.lastore, 1) := by decide +kernel
theorem k241_72 {d : Nat} {l0 l1 l2 l3 l4 : Option PV} {st : List PV} {M : Mem} {Q : Option PV → Mem → Prop} {r : Nat} {j : Int32} {x : Int64} (hk : mK M r = 14) (hj : inb j (mN M r)) (h1 : r ≠ 1) : WP d 241 72 [l0, l1, l2, l3, l4] (vl x :: vi j :: vr r :: st) M Q = WP d 241 73 [l0, l1, l2, l3, l4] (st) (sJ M r (ix j) x) Q := w_last mC_241 d241_72 hk hj h1
theorem d241_73 : decode cX12_put 73 = .ok (.iconst 1, 1) := by decide +kernel
theorem k241_73 {d : Nat} {l0 l1 l2 l3 l4 : Option PV} {st : List PV} {M : Mem} {Q : Option PV → Mem → Prop} : WP d 241 73 [l0, l1, l2, l3, l4] (st) M Q = WP d 241 74 [l0, l1, l2, l3, l4] (vi 1 :: st) M Q := w_iconst mC_241 d241_73 (by decide)
theorem d241_74 : decode cX12_put 74 = .ok (.ireturn, 1) := by decide +kernel
theorem k241_74 {d : Nat} {l0 l1 l2 l3 l4 : Option PV} {M : Mem} {Q : Option PV → Mem → Prop} {x : Int32} : WP d 241 74 [l0, l1, l2, l3, l4] ([vi x]) M Q = Q (some (vi x)) M := w_iret mC_241 d241_74 rfl
theorem d242_0 : decode cX12_element 0 = .ok (.iload_n 1, 1) := by decide +kernel
theorem k242_0 {d : Nat} {x : Int32} {l0 l2 : Option PV} {st : List PV} {M : Mem} {Q : Option PV → Mem → Prop} : WP d 242 0 [l0, some (vi x), l2] (st) M Q = WP d 242 1 [l0, some (vi x), l2] (vi x :: st) M Q := w1 mC_242 d242_0 rfl rfl
theorem d242_1 : decode cX12_element 1 = .ok (.invokestatic 122, 3) := by decide +kernel
theorem k242_1 {d : Nat} {l0 l1 l2 : Option PV} {st : List PV} {M : Mem} {Q : Option PV → Mem → Prop} {a0 : Int32} (hl : szL st ≤ 8) : WP (d + 1) 242 1 [l0, l1, l2] (vi a0 :: st) M Q = WP d 149 0 [some (vi a0)] [] M (fun v M' => WP (d + 1) 242 4 [l0, l1, l2] (psh v st) M' Q) := w_callS mC_242 d242_1 rfl rfl (Nat.le_of_ble_eq_true rfl) (by decide) rfl hl
theorem d242_4 : decode cX12_element 4 = .ok (.ifCond .eq 41, 3) := by decide +kernel
theorem k242_4 {d : Nat} {l0 l1 l2 : Option PV} {st : List PV} {M : Mem} {Q : Option PV → Mem → Prop} {x : Int32} : WP d 242 4 [l0, l1, l2] (vi x :: st) M Q = (if x = 0 then WP d 242 45 [l0, l1, l2] (st) M Q else WP d 242 7 [l0, l1, l2] (st) M Q) := w_if_eq mC_242 d242_4 (by decide)
theorem d242_7 : decode cX12_element 7 = .ok (.aload_n 0, 1) := by decide +kernel
theorem k242_7 {d x : Nat} {l1 l2 : Option PV} {st : List PV} {M : Mem} {Q : Option PV → Mem → Prop} : WP d 242 7 [some (vr x), l1, l2] (st) M Q = WP d 242 8 [some (vr x), l1, l2] (vr x :: st) M Q := w1 mC_242 d242_7 rfl rfl
theorem d242_8 : decode cX12_element 8 = .ok (.iload_n 1, 1) := by decide +kernel
theorem k242_8 {d : Nat} {x : Int32} {l0 l2 : Option PV} {st : List PV} {M : Mem} {Q : Option PV → Mem → Prop} : WP d 242 8 [l0, some (vi x), l2] (st) M Q = WP d 242 9 [l0, some (vi x), l2] (vi x :: st) M Q := w1 mC_242 d242_8 rfl rfl
theorem d242_9 : decode cX12_element 9 = .ok (.invokevirtual 365, 3) := by decide +kernel
theorem k242_9 {d : Nat} {l0 l1 l2 : Option PV} {st : List PV} {M : Mem} {Q : Option PV → Mem → Prop} {a0 : Int32} {r : Nat} (hl : szL st ≤ 8) (hk : mK M r = 12) : WP (d + 1) 242 9 [l0, l1, l2] (vi a0 :: vr r :: st) M Q = WP d 239 0 [some (vr r), some (vi a0)] [] M (fun v M' => WP (d + 1) 242 12 [l0, l1, l2] (psh v st) M' Q) := w_callV mC_242 d242_9 (ci := 12) rfl rfl rfl (Nat.le_of_ble_eq_true rfl) (by decide) rfl hl hk
theorem d242_12 : decode cX12_element 12 = .ok (.ifCond .eq 33, 3) := by decide +kernel
theorem k242_12 {d : Nat} {l0 l1 l2 : Option PV} {st : List PV} {M : Mem} {Q : Option PV → Mem → Prop} {x : Int32} : WP d 242 12 [l0, l1, l2] (vi x :: st) M Q = (if x = 0 then WP d 242 45 [l0, l1, l2] (st) M Q else WP d 242 15 [l0, l1, l2] (st) M Q) := w_if_eq mC_242 d242_12 (by decide)
theorem d242_15 : decode cX12_element 15 = .ok (.iload_n 2, 1) := by decide +kernel
theorem k242_15 {d : Nat} {x : Int32} {l0 l1 : Option PV} {st : List PV} {M : Mem} {Q : Option PV → Mem → Prop} : WP d 242 15 [l0, l1, some (vi x)] (st) M Q = WP d 242 16 [l0, l1, some (vi x)] (vi x :: st) M Q := w1 mC_242 d242_15 rfl rfl
theorem d242_16 : decode cX12_element 16 = .ok (.iconst 0, 1) := by decide +kernel
theorem k242_16 {d : Nat} {l0 l1 l2 : Option PV} {st : List PV} {M : Mem} {Q : Option PV → Mem → Prop} : WP d 242 16 [l0, l1, l2] (st) M Q = WP d 242 17 [l0, l1, l2] (vi 0 :: st) M Q := w_iconst mC_242 d242_16 (by decide)
theorem d242_17 : decode cX12_element 17 = .ok (.aload_n 0, 1) := by decide +kernel
theorem k242_17 {d x : Nat} {l1 l2 : Option PV} {st : List PV} {M : Mem} {Q : Option PV → Mem → Prop} : WP d 242 17 [some (vr x), l1, l2] (st) M Q = WP d 242 18 [some (vr x), l1, l2] (vr x :: st) M Q := w1 mC_242 d242_17 rfl rfl
theorem d242_18 : decode cX12_element 18 = .ok (.getfield 72, 3) := by decide +kernel
theorem k242_18 {d : Nat} {l0 l1 l2 : Option PV} {st : List PV} {M : Mem} {Q : Option PV → Mem → Prop} {r : Nat} (hk : mK M r = 12) : WP d 242 18 [l0, l1, l2] (vr r :: st) M Q = WP d 242 21 [l0, l1, l2] (vr (mR M r 36) :: st) M Q := w_getr mC_242 d242_18 fE_12_72 rfl (by rw [hk]; rfl)
theorem d242_21 : decode cX12_element 21 = .ok (.iload_n 1, 1) := by decide +kernel
theorem k242_21 {d : Nat} {x : Int32} {l0 l2 : Option PV} {st : List PV} {M : Mem} {Q : Option PV → Mem → Prop} : WP d 242 21 [l0, some (vi x), l2] (st) M Q = WP d 242 22 [l0, some (vi x), l2] (vi x :: st) M Q := w1 mC_242 d242_21 rfl rfl
theorem d242_22 : decode cX12_element 22 = .ok (.iaload, 1) := by decide +kernel
theorem k242_22 {d : Nat} {l0 l1 l2 : Option PV} {st : List PV} {M : Mem} {Q : Option PV → Mem → Prop} {r : Nat} {j : Int32} (hk : mK M r = 13) (hj : inb j (mN M r)) (h1 : r ≠ 1) : WP d 242 22 [l0, l1, l2] (vi j :: vr r :: st) M Q = WP d 242 23 [l0, l1, l2] (vi (mI M r (ix j)) :: st) M Q := w_iald mC_242 d242_22 (by decide) hk hj h1
theorem d242_23 : decode cX12_element 23 = .ok (.iconst 1, 1) := by decide +kernel
theorem k242_23 {d : Nat} {l0 l1 l2 : Option PV} {st : List PV} {M : Mem} {Q : Option PV → Mem → Prop} : WP d 242 23 [l0, l1, l2] (st) M Q = WP d 242 24 [l0, l1, l2] (vi 1 :: st) M Q := w_iconst mC_242 d242_23 (by decide)
theorem d242_24 : decode cX12_element 24 = .ok (.isub, 1) := by decide +kernel
theorem k242_24 {d : Nat} {l0 l1 l2 : Option PV} {st : List PV} {M : Mem} {Q : Option PV → Mem → Prop} {x y : Int32} : WP d 242 24 [l0, l1, l2] (vi y :: vi x :: st) M Q = WP d 242 25 [l0, l1, l2] (vi (x - y) :: st) M Q := w1 mC_242 d242_24 rfl rfl
theorem d242_25 : decode cX12_element 25 = .ok (.invokestatic 104, 3) := by decide +kernel
theorem k242_25 {d : Nat} {l0 l1 l2 : Option PV} {st : List PV} {M : Mem} {Q : Option PV → Mem → Prop} {a0 a1 a2 : Int32} (hl : szL st ≤ 8) : WP (d + 1) 242 25 [l0, l1, l2] (vi a2 :: vi a1 :: vi a0 :: st) M Q = WP d 145 0 [some (vi a0), some (vi a1), some (vi a2)] [] M (fun v M' => WP (d + 1) 242 28 [l0, l1, l2] (psh v st) M' Q) := w_callS mC_242 d242_25 rfl rfl (Nat.le_of_ble_eq_true rfl) (by decide) rfl hl
theorem d242_28 : decode cX12_element 28 = .ok (.ifCond .eq 17, 3) := by decide +kernel
theorem k242_28 {d : Nat} {l0 l1 l2 : Option PV} {st : List PV} {M : Mem} {Q : Option PV → Mem → Prop} {x : Int32} : WP d 242 28 [l0, l1, l2] (vi x :: st) M Q = (if x = 0 then WP d 242 45 [l0, l1, l2] (st) M Q else WP d 242 31 [l0, l1, l2] (st) M Q) := w_if_eq mC_242 d242_28 (by decide)
theorem d242_31 : decode cX12_element 31 = .ok (.aload_n 0, 1) := by decide +kernel
theorem k242_31 {d x : Nat} {l1 l2 : Option PV} {st : List PV} {M : Mem} {Q : Option PV → Mem → Prop} : WP d 242 31 [some (vr x), l1, l2] (st) M Q = WP d 242 32 [some (vr x), l1, l2] (vr x :: st) M Q := w1 mC_242 d242_31 rfl rfl
theorem d242_32 : decode cX12_element 32 = .ok (.getfield 75, 3) := by decide +kernel
theorem k242_32 {d : Nat} {l0 l1 l2 : Option PV} {st : List PV} {M : Mem} {Q : Option PV → Mem → Prop} {r : Nat} (hk : mK M r = 12) : WP d 242 32 [l0, l1, l2] (vr r :: st) M Q = WP d 242 35 [l0, l1, l2] (vr (mR M r 37) :: st) M Q := w_getr mC_242 d242_32 fE_12_75 rfl (by rw [hk]; rfl)
theorem d242_35 : decode cX12_element 35 = .ok (.bipush 60, 2) := by decide +kernel
theorem k242_35 {d : Nat} {l0 l1 l2 : Option PV} {st : List PV} {M : Mem} {Q : Option PV → Mem → Prop} : WP d 242 35 [l0, l1, l2] (st) M Q = WP d 242 37 [l0, l1, l2] (vi 60 :: st) M Q := w_bipush mC_242 d242_35 (by decide)
theorem d242_37 : decode cX12_element 37 = .ok (.iload_n 1, 1) := by decide +kernel
theorem k242_37 {d : Nat} {x : Int32} {l0 l2 : Option PV} {st : List PV} {M : Mem} {Q : Option PV → Mem → Prop} : WP d 242 37 [l0, some (vi x), l2] (st) M Q = WP d 242 38 [l0, some (vi x), l2] (vi x :: st) M Q := w1 mC_242 d242_37 rfl rfl
theorem d242_38 : decode cX12_element 38 = .ok (.imul, 1) := by decide +kernel
theorem k242_38 {d : Nat} {l0 l1 l2 : Option PV} {st : List PV} {M : Mem} {Q : Option PV → Mem → Prop} {x y : Int32} : WP d 242 38 [l0, l1, l2] (vi y :: vi x :: st) M Q = WP d 242 39 [l0, l1, l2] (vi (x * y) :: st) M Q := w1 mC_242 d242_38 rfl rfl
theorem d242_39 : decode cX12_element 39 = .ok (.iload_n 2, 1) := by decide +kernel
theorem k242_39 {d : Nat} {x : Int32} {l0 l1 : Option PV} {st : List PV} {M : Mem} {Q : Option PV → Mem → Prop} : WP d 242 39 [l0, l1, some (vi x)] (st) M Q = WP d 242 40 [l0, l1, some (vi x)] (vi x :: st) M Q := w1 mC_242 d242_39 rfl rfl
theorem d242_40 : decode cX12_element 40 = .ok (.iadd, 1) := by decide +kernel
theorem k242_40 {d : Nat} {l0 l1 l2 : Option PV} {st : List PV} {M : Mem} {Q : Option PV → Mem → Prop} {x y : Int32} : WP d 242 40 [l0, l1, l2] (vi y :: vi x :: st) M Q = WP d 242 41 [l0, l1, l2] (vi (x + y) :: st) M Q := w1 mC_242 d242_40 rfl rfl
theorem d242_41 : decode cX12_element 41 = .ok (.laload, 1) := by decide +kernel
theorem k242_41 {d : Nat} {l0 l1 l2 : Option PV} {st : List PV} {M : Mem} {Q : Option PV → Mem → Prop} {r : Nat} {j : Int32} (hk : mK M r = 14) (hj : inb j (mN M r)) (h1 : r ≠ 1) : WP d 242 41 [l0, l1, l2] (vi j :: vr r :: st) M Q = WP d 242 42 [l0, l1, l2] (vl (mJ M r (ix j)) :: st) M Q := w_lald mC_242 d242_41 hk hj h1
theorem d242_42 : decode cX12_element 42 = .ok (.goto 6, 3) := by decide +kernel
theorem k242_42 {d : Nat} {l0 l1 l2 : Option PV} {st : List PV} {M : Mem} {Q : Option PV → Mem → Prop} : WP d 242 42 [l0, l1, l2] (st) M Q = WP d 242 48 [l0, l1, l2] (st) M Q := w_goto mC_242 d242_42 (by decide)
theorem d242_45 : decode cX12_element 45 = .ok (.ldc2_w 372, 3) := by decide +kernel
theorem k242_45 {d : Nat} {l0 l1 l2 : Option PV} {st : List PV} {M : Mem} {Q : Option PV → Mem → Prop} : WP d 242 45 [l0, l1, l2] (st) M Q = WP d 242 48 [l0, l1, l2] (vl (-9223372036854775808) :: st) M Q := w_ldl mC_242 d242_45 rfl
theorem d242_48 : decode cX12_element 48 = .ok (.lreturn, 1) := by decide +kernel
theorem k242_48 {d : Nat} {l0 l1 l2 : Option PV} {M : Mem} {Q : Option PV → Mem → Prop} {x : Int64} : WP d 242 48 [l0, l1, l2] ([vl x]) M Q = Q (some (vl x)) M := w_lret mC_242 d242_48 rfl
