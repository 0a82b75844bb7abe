/-! step rows, by program (wip/p44/gen_rows.py) -/
theorem d70_0 : decode cX11_init 0 = .ok (.aload_n 0, 1) := by decide +kernel
theorem k70_0 {d x : Nat} {l1 : Option PV} {st : List PV} {M : Mem} {Q : Option PV → Mem → Prop} : WP d 70 0 [some (vr x), l1] (st) M Q = WP d 70 1 [some (vr x), l1] (vr x :: st) M Q := w1 mC_70 d70_0 rfl rfl
theorem d70_1 : decode cX11_init 1 = .ok (.invokespecial 1, 3) := by decide +kernel
theorem k70_1 {d : Nat} {l0 l1 : Option PV} {st : List PV} {M : Mem} {Q : Option PV → Mem → Prop} {r : Nat} (hl : szL st ≤ 8) (hk : mK M r < 13) : WP d 70 1 [l0, l1] (vr r :: st) M Q = WP d 70 4 [l0, l1] (st) M Q := w_oi mC_70 d70_1 rfl rfl rfl rfl hl hk
theorem d70_4 : decode cX11_init 4 = .ok (.aload_n 0, 1) := by decide +kernel
theorem k70_4 {d x : Nat} {l1 : Option PV} {st : List PV} {M : Mem} {Q : Option PV → Mem → Prop} : WP d 70 4 [some (vr x), l1] (st) M Q = WP d 70 5 [some (vr x), l1] (vr x :: st) M Q := w1 mC_70 d70_4 rfl rfl
theorem d70_5 : decode cX11_init 5 = .ok (.new 7, 3) := by decide +kernel
theorem k70_5 {d : Nat} {l0 l1 : Option PV} {st : List PV} {M : Mem} {Q : Option PV → Mem → Prop} : WP d 70 5 [l0, l1] (st) M Q = WP d 70 8 [l0, l1] (vr (mX M) :: st) (nw M 4 0 11) Q := w_new mC_70 d70_5 (k := 4) rfl
theorem d70_8 : decode cX11_init 8 = .ok (.dup, 1) := by decide +kernel
theorem k70_8 {d : Nat} {l0 l1 : Option PV} {st : List PV} {M : Mem} {Q : Option PV → Mem → Prop} {x : Nat} : WP d 70 8 [l0, l1] (vr x :: st) M Q = WP d 70 9 [l0, l1] (vr x :: vr x :: st) M Q := w1 mC_70 d70_8 rfl rfl
theorem k70_8i {d : Nat} {l0 l1 : Option PV} {st : List PV} {M : Mem} {Q : Option PV → Mem → Prop} {x : Int32} : WP d 70 8 [l0, l1] (vi x :: st) M Q = WP d 70 9 [l0, l1] (vi x :: vi x :: st) M Q := w1 mC_70 d70_8 rfl rfl
theorem d70_9 : decode cX11_init 9 = .ok (.invokespecial 9, 3) := by decide +kernel
theorem k70_9 {d : Nat} {l0 l1 : Option PV} {st : List PV} {M : Mem} {Q : Option PV → Mem → Prop} {r : Nat} (hl : szL st ≤ 8) (hk : mK M r < 13) : WP (d + 1) 70 9 [l0, l1] (vr r :: st) M Q = WP d 23 0 [some (vr r)] [] M (fun v M' => WP (d + 1) 70 12 [l0, l1] (psh v st) M' Q) := w_callJ mC_70 d70_9 rfl rfl rfl (Nat.le_of_ble_eq_true rfl) (by decide) rfl hl hk
theorem d70_12 : decode cX11_init 12 = .ok (.putfield 10, 3) := by decide +kernel
theorem k70_12 {d : Nat} {l0 l1 : Option PV} {st : List PV} {M : Mem} {Q : Option PV → Mem → Prop} {r q : Nat} (hk : mK M r = 11) : WP d 70 12 [l0, l1] (vr q :: vr r :: st) M Q = WP d 70 15 [l0, l1] (st) (sR M r 0 q) Q := w_putr mC_70 d70_12 fE_11_10 (by decide +kernel) (by rw [hk]; rfl)
theorem d70_15 : decode cX11_init 15 = .ok (.aload_n 0, 1) := by decide +kernel
theorem k70_15 {d x : Nat} {l1 : Option PV} {st : List PV} {M : Mem} {Q : Option PV → Mem → Prop} : WP d 70 15 [some (vr x), l1] (st) M Q = WP d 70 16 [some (vr x), l1] (vr x :: st) M Q := w1 mC_70 d70_15 rfl rfl
theorem d70_16 : decode cX11_init 16 = .ok (.new 7, 3) := by decide +kernel
theorem k70_16 {d : Nat} {l0 l1 : Option PV} {st : List PV} {M : Mem} {Q : Option PV → Mem → Prop} : WP d 70 16 [l0, l1] (st) M Q = WP d 70 19 [l0, l1] (vr (mX M) :: st) (nw M 4 0 11) Q := w_new mC_70 d70_16 (k := 4) rfl
theorem d70_19 : decode cX11_init 19 = .ok (.dup, 1) := by decide +kernel
theorem k70_19 {d : Nat} {l0 l1 : Option PV} {st : List PV} {M : Mem} {Q : Option PV → Mem → Prop} {x : Nat} : WP d 70 19 [l0, l1] (vr x :: st) M Q = WP d 70 20 [l0, l1] (vr x :: vr x :: st) M Q := w1 mC_70 d70_19 rfl rfl
theorem k70_19i {d : Nat} {l0 l1 : Option PV} {st : List PV} {M : Mem} {Q : Option PV → Mem → Prop} {x : Int32} : WP d 70 19 [l0, l1] (vi x :: st) M Q = WP d 70 20 [l0, l1] (vi x :: vi x :: st) M Q := w1 mC_70 d70_19 rfl rfl
theorem d70_20 : decode cX11_init 20 = .ok (.invokespecial 9, 3) := by decide +kernel
theorem k70_20 {d : Nat} {l0 l1 : Option PV} {st : List PV} {M : Mem} {Q : Option PV → Mem → Prop} {r : Nat} (hl : szL st ≤ 8) (hk : mK M r < 13) : WP (d + 1) 70 20 [l0, l1] (vr r :: st) M Q = WP d 23 0 [some (vr r)] [] M (fun v M' => WP (d + 1) 70 23 [l0, l1] (psh v st) M' Q) := w_callJ mC_70 d70_20 rfl rfl rfl (Nat.le_of_ble_eq_true rfl) (by decide) rfl hl hk
theorem d70_23 : decode cX11_init 23 = .ok (.putfield 16, 3) := by decide +kernel
theorem k70_23 {d : Nat} {l0 l1 : Option PV} {st : List PV} {M : Mem} {Q : Option PV → Mem → Prop} {r q : Nat} (hk : mK M r = 11) : WP d 70 23 [l0, l1] (vr q :: vr r :: st) M Q = WP d 70 26 [l0, l1] (st) (sR M r 1 q) Q := w_putr mC_70 d70_23 fE_11_16 (by decide +kernel) (by rw [hk]; rfl)
theorem d70_26 : decode cX11_init 26 = .ok (.aload_n 0, 1) := by decide +kernel
theorem k70_26 {d x : Nat} {l1 : Option PV} {st : List PV} {M : Mem} {Q : Option PV → Mem → Prop} : WP d 70 26 [some (vr x), l1] (st) M Q = WP d 70 27 [some (vr x), l1] (vr x :: st) M Q := w1 mC_70 d70_26 rfl rfl
theorem d70_27 : decode cX11_init 27 = .ok (.new 7, 3) := by decide +kernel
theorem k70_27 {d : Nat} {l0 l1 : Option PV} {st : List PV} {M : Mem} {Q : Option PV → Mem → Prop} : WP d 70 27 [l0, l1] (st) M Q = WP d 70 30 [l0, l1] (vr (mX M) :: st) (nw M 4 0 11) Q := w_new mC_70 d70_27 (k := 4) rfl
theorem d70_30 : decode cX11_init 30 = .ok (.dup, 1) := by decide +kernel
theorem k70_30 {d : Nat} {l0 l1 : Option PV} {st : List PV} {M : Mem} {Q : Option PV → Mem → Prop} {x : Nat} : WP d 70 30 [l0, l1] (vr x :: st) M Q = WP d 70 31 [l0, l1] (vr x :: vr x :: st) M Q := w1 mC_70 d70_30 rfl rfl
theorem k70_30i {d : Nat} {l0 l1 : Option PV} {st : List PV} {M : Mem} {Q : Option PV → Mem → Prop} {x : Int32} : WP d 70 30 [l0, l1] (vi x :: st) M Q = WP d 70 31 [l0, l1] (vi x :: vi x :: st) M Q := w1 mC_70 d70_30 rfl rfl
theorem d70_31 : decode cX11_init 31 = .ok (.invokespecial 9, 3) := by decide +kernel
theorem k70_31 {d : Nat} {l0 l1 : Option PV} {st : List PV} {M : Mem} {Q : Option PV → Mem → Prop} {r : Nat} (hl : szL st ≤ 8) (hk : mK M r < 13) : WP (d + 1) 70 31 [l0, l1] (vr r :: st) M Q = WP d 23 0 [some (vr r)] [] M (fun v M' => WP (d + 1) 70 34 [l0, l1] (psh v st) M' Q) := w_callJ mC_70 d70_31 rfl rfl rfl (Nat.le_of_ble_eq_true rfl) (by decide) rfl hl hk
theorem d70_34 : decode cX11_init 34 = .ok (.putfield 19, 3) := by decide +kernel
theorem k70_34 {d : Nat} {l0 l1 : Option PV} {st : List PV} {M : Mem} {Q : Option PV → Mem → Prop} {r q : Nat} (hk : mK M r = 11) : WP d 70 34 [l0, l1] (vr q :: vr r :: st) M Q = WP d 70 37 [l0, l1] (st) (sR M r 2 q) Q := w_putr mC_70 d70_34 fE_11_19 (by decide +kernel) (by rw [hk]; rfl)
theorem d70_37 : decode cX11_init 37 = .ok (.aload_n 0, 1) := by decide +kernel
theorem k70_37 {d x : Nat} {l1 : Option PV} {st : List PV} {M : Mem} {Q : Option PV → Mem → Prop} : WP d 70 37 [some (vr x), l1] (st) M Q = WP d 70 38 [some (vr x), l1] (vr x :: st) M Q := w1 mC_70 d70_37 rfl rfl
theorem d70_38 : decode cX11_init 38 = .ok (.new 22, 3) := by decide +kernel
theorem k70_38 {d : Nat} {l0 l1 : Option PV} {st : List PV} {M : Mem} {Q : Option PV → Mem → Prop} : WP d 70 38 [l0, l1] (st) M Q = WP d 70 41 [l0, l1] (vr (mX M) :: st) (nw M 3 0 9) Q := w_new mC_70 d70_38 (k := 3) rfl
theorem d70_41 : decode cX11_init 41 = .ok (.dup, 1) := by decide +kernel
theorem k70_41 {d : Nat} {l0 l1 : Option PV} {st : List PV} {M : Mem} {Q : Option PV → Mem → Prop} {x : Nat} : WP d 70 41 [l0, l1] (vr x :: st) M Q = WP d 70 42 [l0, l1] (vr x :: vr x :: st) M Q := w1 mC_70 d70_41 rfl rfl
theorem k70_41i {d : Nat} {l0 l1 : Option PV} {st : List PV} {M : Mem} {Q : Option PV → Mem → Prop} {x : Int32} : WP d 70 41 [l0, l1] (vi x :: st) M Q = WP d 70 42 [l0, l1] (vi x :: vi x :: st) M Q := w1 mC_70 d70_41 rfl rfl
theorem d70_42 : decode cX11_init 42 = .ok (.invokespecial 24, 3) := by decide +kernel
theorem k70_42 {d : Nat} {l0 l1 : Option PV} {st : List PV} {M : Mem} {Q : Option PV → Mem → Prop} {r : Nat} (hl : szL st ≤ 8) (hk : mK M r < 13) : WP (d + 1) 70 42 [l0, l1] (vr r :: st) M Q = WP d 7 0 [some (vr r)] [] M (fun v M' => WP (d + 1) 70 45 [l0, l1] (psh v st) M' Q) := w_callJ mC_70 d70_42 rfl rfl rfl (Nat.le_of_ble_eq_true rfl) (by decide) rfl hl hk
theorem d70_45 : decode cX11_init 45 = .ok (.putfield 25, 3) := by decide +kernel
theorem k70_45 {d : Nat} {l0 l1 : Option PV} {st : List PV} {M : Mem} {Q : Option PV → Mem → Prop} {r q : Nat} (hk : mK M r = 11) : WP d 70 45 [l0, l1] (vr q :: vr r :: st) M Q = WP d 70 48 [l0, l1] (st) (sR M r 4 q) Q := w_putr mC_70 d70_45 fE_11_25 (by decide +kernel) (by rw [hk]; rfl)
theorem d70_48 : decode cX11_init 48 = .ok (.aload_n 0, 1) := by decide +kernel
theorem k70_48 {d x : Nat} {l1 : Option PV} {st : List PV} {M : Mem} {Q : Option PV → Mem → Prop} : WP d 70 48 [some (vr x), l1] (st) M Q = WP d 70 49 [some (vr x), l1] (vr x :: st) M Q := w1 mC_70 d70_48 rfl rfl
theorem d70_49 : decode cX11_init 49 = .ok (.new 22, 3) := by decide +kernel
theorem k70_49 {d : Nat} {l0 l1 : Option PV} {st : List PV} {M : Mem} {Q : Option PV → Mem → Prop} : WP d 70 49 [l0, l1] (st) M Q = WP d 70 52 [l0, l1] (vr (mX M) :: st) (nw M 3 0 9) Q := w_new mC_70 d70_49 (k := 3) rfl
theorem d70_52 : decode cX11_init 52 = .ok (.dup, 1) := by decide +kernel
theorem k70_52 {d : Nat} {l0 l1 : Option PV} {st : List PV} {M : Mem} {Q : Option PV → Mem → Prop} {x : Nat} : WP d 70 52 [l0, l1] (vr x :: st) M Q = WP d 70 53 [l0, l1] (vr x :: vr x :: st) M Q := w1 mC_70 d70_52 rfl rfl
theorem k70_52i {d : Nat} {l0 l1 : Option PV} {st : List PV} {M : Mem} {Q : Option PV → Mem → Prop} {x : Int32} : WP d 70 52 [l0, l1] (vi x :: st) M Q = WP d 70 53 [l0, l1] (vi x :: vi x :: st) M Q := w1 mC_70 d70_52 rfl rfl
theorem d70_53 : decode cX11_init 53 = .ok (.invokespecial 24, 3) := by decide +kernel
theorem k70_53 {d : Nat} {l0 l1 : Option PV} {st : List PV} {M : Mem} {Q : Option PV → Mem → Prop} {r : Nat} (hl : szL st ≤ 8) (hk : mK M r < 13) : WP (d + 1) 70 53 [l0, l1] (vr r :: st) M Q = WP d 7 0 [some (vr r)] [] M (fun v M' => WP (d + 1) 70 56 [l0, l1] (psh v st) M' Q) := w_callJ mC_70 d70_53 rfl rfl rfl (Nat.le_of_ble_eq_true rfl) (by decide) rfl hl hk
theorem d70_56 : decode cX11_init 56 = .ok (.putfield 29, 3) := by decide +kernel
theorem k70_56 {d : Nat} {l0 l1 : Option PV} {st : List PV} {M : Mem} {Q : Option PV → Mem → Prop} {r q : Nat} (hk : mK M r = 11) : WP d 70 56 [l0, l1] (vr q :: vr r :: st) M Q = WP d 70 59 [l0, l1] (st) (sR M r 5 q) Q := w_putr mC_70 d70_56 fE_11_29 (by decide +kernel) (by rw [hk]; rfl)
theorem d70_59 : decode cX11_init 59 = .ok (.aload_n 0, 1) := by decide +kernel
theorem k70_59 {d x : Nat} {l1 : Option PV} {st : List PV} {M : Mem} {Q : Option PV → Mem → Prop} : WP d 70 59 [some (vr x), l1] (st) M Q = WP d 70 60 [some (vr x), l1] (vr x :: st) M Q := w1 mC_70 d70_59 rfl rfl
theorem d70_60 : decode cX11_init 60 = .ok (.bipush 120, 2) := by decide +kernel
theorem k70_60 {d : Nat} {l0 l1 : Option PV} {st : List PV} {M : Mem} {Q : Option PV → Mem → Prop} : WP d 70 60 [l0, l1] (st) M Q = WP d 70 62 [l0, l1] (vi 120 :: st) M Q := w_bipush mC_70 d70_60 (by decide)
theorem d70_62 : decode cX11_init 62 = .ok (.newarray .int, 2) := by decide +kernel
theorem k70_62 {d : Nat} {l0 l1 : Option PV} {st : List PV} {M : Mem} {Q : Option PV → Mem → Prop} {x : Int32} (hx : ¬ x < 0 ∧ ix x ≤ 100000) : WP d 70 62 [l0, l1] (vi x :: st) M Q = WP d 70 64 [l0, l1] (vr (mX M) :: st) (nw M 13 (ix x) (ix x)) Q := w_nwi mC_70 d70_62 hx
theorem d70_64 : decode cX11_init 64 = .ok (.putfield 32, 3) := by decide +kernel
theorem k70_64 {d : Nat} {l0 l1 : Option PV} {st : List PV} {M : Mem} {Q : Option PV → Mem → Prop} {r q : Nat} (hk : mK M r = 11) : WP d 70 64 [l0, l1] (vr q :: vr r :: st) M Q = WP d 70 67 [l0, l1] (st) (sR M r 6 q) Q := w_putr mC_70 d70_64 fE_11_32 (by decide +kernel) (by rw [hk]; rfl)
theorem d70_67 : decode cX11_init 67 = .ok (.aload_n 0, 1) := by decide +kernel
theorem k70_67 {d x : Nat} {l1 : Option PV} {st : List PV} {M : Mem} {Q : Option PV → Mem → Prop} : WP d 70 67 [some (vr x), l1] (st) M Q = WP d 70 68 [some (vr x), l1] (vr x :: st) M Q := w1 mC_70 d70_67 rfl rfl
theorem d70_68 : decode cX11_init 68 = .ok (.bipush 40, 2) := by decide +kernel
theorem k70_68 {d : Nat} {l0 l1 : Option PV} {st : List PV} {M : Mem} {Q : Option PV → Mem → Prop} : WP d 70 68 [l0, l1] (st) M Q = WP d 70 70 [l0, l1] (vi 40 :: st) M Q := w_bipush mC_70 d70_68 (by decide)
theorem d70_70 : decode cX11_init 70 = .ok (.iconst 4, 1) := by decide +kernel
theorem k70_70 {d : Nat} {l0 l1 : Option PV} {st : List PV} {M : Mem} {Q : Option PV → Mem → Prop} : WP d 70 70 [l0, l1] (st) M Q = WP d 70 71 [l0, l1] (vi 4 :: st) M Q := w_iconst mC_70 d70_70 (by decide)
theorem d70_71 : decode cX11_init 71 = .ok (.multianewarray 36 2, 4) := by decide +kernel
theorem k70_71 {d : Nat} {l0 l1 : Option PV} {st : List PV} {M : Mem} {Q : Option PV → Mem → Prop} {x z : Int32} (hx : ¬ x < 0 ∧ ix x ≤ 100000) (hz : ¬ z < 0 ∧ ix z ≤ 100000) : WP d 70 71 [l0, l1] (vi z :: vi x :: st) M Q = WP d 70 75 [l0, l1] (vr (mX M) :: st) (nw2 M (ix x) (ix z)) Q := w_mnw mC_70 d70_71 rfl hx hz
theorem d70_75 : decode cX11_init 75 = .ok (.putfield 38, 3) := by decide +kernel
theorem k70_75 {d : Nat} {l0 l1 : Option PV} {st : List PV} {M : Mem} {Q : Option PV → Mem → Prop} {r q : Nat} (hk : mK M r = 11) : WP d 70 75 [l0, l1] (vr q :: vr r :: st) M Q = WP d 70 78 [l0, l1] (st) (sR M r 8 q) Q := w_putr mC_70 d70_75 fE_11_38 (by decide +kernel) (by rw [hk]; rfl)
theorem d70_78 : decode cX11_init 78 = .ok (.aload_n 0, 1) := by decide +kernel
theorem k70_78 {d x : Nat} {l1 : Option PV} {st : List PV} {M : Mem} {Q : Option PV → Mem → Prop} : WP d 70 78 [some (vr x), l1] (st) M Q = WP d 70 79 [some (vr x), l1] (vr x :: st) M Q := w1 mC_70 d70_78 rfl rfl
theorem d70_79 : decode cX11_init 79 = .ok (.bipush 8, 2) := by decide +kernel
theorem k70_79 {d : Nat} {l0 l1 : Option PV} {st : List PV} {M : Mem} {Q : Option PV → Mem → Prop} : WP d 70 79 [l0, l1] (st) M Q = WP d 70 81 [l0, l1] (vi 8 :: st) M Q := w_bipush mC_70 d70_79 (by decide)
theorem d70_81 : decode cX11_init 81 = .ok (.bipush 8, 2) := by decide +kernel
theorem k70_81 {d : Nat} {l0 l1 : Option PV} {st : List PV} {M : Mem} {Q : Option PV → Mem → Prop} : WP d 70 81 [l0, l1] (st) M Q = WP d 70 83 [l0, l1] (vi 8 :: st) M Q := w_bipush mC_70 d70_81 (by decide)
theorem d70_83 : decode cX11_init 83 = .ok (.multianewarray 36 2, 4) := by decide +kernel
theorem k70_83 {d : Nat} {l0 l1 : Option PV} {st : List PV} {M : Mem} {Q : Option PV → Mem → Prop} {x z : Int32} (hx : ¬ x < 0 ∧ ix x ≤ 100000) (hz : ¬ z < 0 ∧ ix z ≤ 100000) : WP d 70 83 [l0, l1] (vi z :: vi x :: st) M Q = WP d 70 87 [l0, l1] (vr (mX M) :: st) (nw2 M (ix x) (ix z)) Q := w_mnw mC_70 d70_83 rfl hx hz
theorem d70_87 : decode cX11_init 87 = .ok (.putfield 41, 3) := by decide +kernel
theorem k70_87 {d : Nat} {l0 l1 : Option PV} {st : List PV} {M : Mem} {Q : Option PV → Mem → Prop} {r q : Nat} (hk : mK M r = 11) : WP d 70 87 [l0, l1] (vr q :: vr r :: st) M Q = WP d 70 90 [l0, l1] (st) (sR M r 11 q) Q := w_putr mC_70 d70_87 fE_11_41 (by decide +kernel) (by rw [hk]; rfl)
theorem d70_90 : decode cX11_init 90 = .ok (.aload_n 0, 1) := by decide +kernel
theorem k70_90 {d x : Nat} {l1 : Option PV} {st : List PV} {M : Mem} {Q : Option PV → Mem → Prop} : WP d 70 90 [some (vr x), l1] (st) M Q = WP d 70 91 [some (vr x), l1] (vr x :: st) M Q := w1 mC_70 d70_90 rfl rfl
theorem d70_91 : decode cX11_init 91 = .ok (.bipush 9, 2) := by decide +kernel
theorem k70_91 {d : Nat} {l0 l1 : Option PV} {st : List PV} {M : Mem} {Q : Option PV → Mem → Prop} : WP d 70 91 [l0, l1] (st) M Q = WP d 70 93 [l0, l1] (vi 9 :: st) M Q := w_bipush mC_70 d70_91 (by decide)
theorem d70_93 : decode cX11_init 93 = .ok (.sipush 256, 3) := by decide +kernel
theorem k70_93 {d : Nat} {l0 l1 : Option PV} {st : List PV} {M : Mem} {Q : Option PV → Mem → Prop} : WP d 70 93 [l0, l1] (st) M Q = WP d 70 96 [l0, l1] (vi 256 :: st) M Q := w_sipush mC_70 d70_93 (by decide)
theorem d70_96 : decode cX11_init 96 = .ok (.multianewarray 36 2, 4) := by decide +kernel
theorem k70_96 {d : Nat} {l0 l1 : Option PV} {st : List PV} {M : Mem} {Q : Option PV → Mem → Prop} {x z : Int32} (hx : ¬ x < 0 ∧ ix x ≤ 100000) (hz : ¬ z < 0 ∧ ix z ≤ 100000) : WP d 70 96 [l0, l1] (vi z :: vi x :: st) M Q = WP d 70 100 [l0, l1] (vr (mX M) :: st) (nw2 M (ix x) (ix z)) Q := w_mnw mC_70 d70_96 rfl hx hz
theorem d70_100 : decode cX11_init 100 = .ok (.putfield 44, 3) := by decide +kernel
theorem k70_100 {d : Nat} {l0 l1 : Option PV} {st : List PV} {M : Mem} {Q : Option PV → Mem → Prop} {r q : Nat} (hk : mK M r = 11) : WP d 70 100 [l0, l1] (vr q :: vr r :: st) M Q = WP d 70 103 [l0, l1] (st) (sR M r 12 q) Q := w_putr mC_70 d70_100 fE_11_44 (by decide +kernel) (by rw [hk]; rfl)
theorem d70_103 : decode cX11_init 103 = .ok (.aload_n 0, 1) := by decide +kernel
theorem k70_103 {d x : Nat} {l1 : Option PV} {st : List PV} {M : Mem} {Q : Option PV → Mem → Prop} : WP d 70 103 [some (vr x), l1] (st) M Q = WP d 70 104 [some (vr x), l1] (vr x :: st) M Q := w1 mC_70 d70_103 rfl rfl
theorem d70_104 : decode cX11_init 104 = .ok (.bipush 50, 2) := by decide +kernel
theorem k70_104 {d : Nat} {l0 l1 : Option PV} {st : List PV} {M : Mem} {Q : Option PV → Mem → Prop} : WP d 70 104 [l0, l1] (st) M Q = WP d 70 106 [l0, l1] (vi 50 :: st) M Q := w_bipush mC_70 d70_104 (by decide)
theorem d70_106 : decode cX11_init 106 = .ok (.anewarray 47, 3) := by decide +kernel
theorem k70_106 {d : Nat} {l0 l1 : Option PV} {st : List PV} {M : Mem} {Q : Option PV → Mem → Prop} {x : Int32} (hx : ¬ x < 0 ∧ ix x ≤ 100000) : WP d 70 106 [l0, l1] (vi x :: st) M Q = WP d 70 109 [l0, l1] (vr (mX M) :: st) (nw M 15 (ix x) (ix x)) Q := w_anw mC_70 d70_106 rfl hx
theorem d70_109 : decode cX11_init 109 = .ok (.putfield 49, 3) := by decide +kernel
theorem k70_109 {d : Nat} {l0 l1 : Option PV} {st : List PV} {M : Mem} {Q : Option PV → Mem → Prop} {r q : Nat} (hk : mK M r = 11) : WP d 70 109 [l0, l1] (vr q :: vr r :: st) M Q = WP d 70 112 [l0, l1] (st) (sR M r 13 q) Q := w_putr mC_70 d70_109 fE_11_49 (by decide +kernel) (by rw [hk]; rfl)
theorem d70_112 : decode cX11_init 112 = .ok (.aload_n 0, 1) := by decide +kernel
theorem k70_112 {d x : Nat} {l1 : Option PV} {st : List PV} {M : Mem} {Q : Option PV → Mem → Prop} : WP d 70 112 [some (vr x), l1] (st) M Q = WP d 70 113 [some (vr x), l1] (vr x :: st) M Q := w1 mC_70 d70_112 rfl rfl
theorem d70_113 : decode cX11_init 113 = .ok (.bipush 25, 2) := by decide +kernel
theorem k70_113 {d : Nat} {l0 l1 : Option PV} {st : List PV} {M : Mem} {Q : Option PV → Mem → Prop} : WP d 70 113 [l0, l1] (st) M Q = WP d 70 115 [l0, l1] (vi 25 :: st) M Q := w_bipush mC_70 d70_113 (by decide)
theorem d70_115 : decode cX11_init 115 = .ok (.newarray .int, 2) := by decide +kernel
theorem k70_115 {d : Nat} {l0 l1 : Option PV} {st : List PV} {M : Mem} {Q : Option PV → Mem → Prop} {x : Int32} (hx : ¬ x < 0 ∧ ix x ≤ 100000) : WP d 70 115 [l0, l1] (vi x :: st) M Q = WP d 70 117 [l0, l1] (vr (mX M) :: st) (nw M 13 (ix x) (ix x)) Q := w_nwi mC_70 d70_115 hx
theorem d70_117 : decode cX11_init 117 = .ok (.putfield 53, 3) := by decide +kernel
theorem k70_117 {d : Nat} {l0 l1 : Option PV} {st : List PV} {M : Mem} {Q : Option PV → Mem → Prop} {r q : Nat} (hk : mK M r = 11) : WP d 70 117 [l0, l1] (vr q :: vr r :: st) M Q = WP d 70 120 [l0, l1] (st) (sR M r 15 q) Q := w_putr mC_70 d70_117 fE_11_53 (by decide +kernel) (by rw [hk]; rfl)
theorem d70_120 : decode cX11_init 120 = .ok (.aload_n 0, 1) := by decide +kernel
theorem k70_120 {d x : Nat} {l1 : Option PV} {st : List PV} {M : Mem} {Q : Option PV → Mem → Prop} : WP d 70 120 [some (vr x), l1] (st) M Q = WP d 70 121 [some (vr x), l1] (vr x :: st) M Q := w1 mC_70 d70_120 rfl rfl
theorem d70_121 : decode cX11_init 121 = .ok (.bipush 6, 2) := by decide +kernel
theorem k70_121 {d : Nat} {l0 l1 : Option PV} {st : List PV} {M : Mem} {Q : Option PV → Mem → Prop} : WP d 70 121 [l0, l1] (st) M Q = WP d 70 123 [l0, l1] (vi 6 :: st) M Q := w_bipush mC_70 d70_121 (by decide)
theorem d70_123 : decode cX11_init 123 = .ok (.anewarray 56, 3) := by decide +kernel
theorem k70_123 {d : Nat} {l0 l1 : Option PV} {st : List PV} {M : Mem} {Q : Option PV → Mem → Prop} {x : Int32} (hx : ¬ x < 0 ∧ ix x ≤ 100000) : WP d 70 123 [l0, l1] (vi x :: st) M Q = WP d 70 126 [l0, l1] (vr (mX M) :: st) (nw M 16 (ix x) (ix x)) Q := w_anw mC_70 d70_123 rfl hx
theorem d70_126 : decode cX11_init 126 = .ok (.putfield 58, 3) := by decide +kernel
theorem k70_126 {d : Nat} {l0 l1 : Option PV} {st : List PV} {M : Mem} {Q : Option PV → Mem → Prop} {r q : Nat} (hk : mK M r = 11) : WP d 70 126 [l0, l1] (vr q :: vr r :: st) M Q = WP d 70 129 [l0, l1] (st) (sR M r 16 q) Q := w_putr mC_70 d70_126 fE_11_58 (by decide +kernel) (by rw [hk]; rfl)
theorem d70_129 : decode cX11_init 129 = .ok (.iconst 0, 1) := by decide +kernel
theorem k70_129 {d : Nat} {l0 l1 : Option PV} {st : List PV} {M : Mem} {Q : Option PV → Mem → Prop} : WP d 70 129 [l0, l1] (st) M Q = WP d 70 130 [l0, l1] (vi 0 :: st) M Q := w_iconst mC_70 d70_129 (by decide)
theorem d70_130 : decode cX11_init 130 = .ok (.istore_n 1, 1) := by decide +kernel
theorem k70_130 {d : Nat} {l0 l1 : Option PV} {st : List PV} {M : Mem} {Q : Option PV → Mem → Prop} {x : Int32} : WP d 70 130 [l0, l1] (vi x :: st) M Q = WP d 70 131 [l0, some (vi x)] (st) M Q := w1 mC_70 d70_130 rfl rfl
theorem d70_131 : decode cX11_init 131 = .ok (.iload_n 1, 1) := by decide +kernel
theorem k70_131 {d : Nat} {x : Int32} {l0 : Option PV} {st : List PV} {M : Mem} {Q : Option PV → Mem → Prop} : WP d 70 131 [l0, some (vi x)] (st) M Q = WP d 70 132 [l0, some (vi x)] (vi x :: st) M Q := w1 mC_70 d70_131 rfl rfl
theorem d70_132 : decode cX11_init 132 = .ok (.bipush 6, 2) := by decide +kernel
theorem k70_132 {d : Nat} {l0 l1 : Option PV} {st : List PV} {M : Mem} {Q : Option PV → Mem → Prop} : WP d 70 132 [l0, l1] (st) M Q = WP d 70 134 [l0, l1] (vi 6 :: st) M Q := w_bipush mC_70 d70_132 (by decide)
theorem d70_134 : decode cX11_init 134 = .ok (.if_icmp .ge 22, 3) := by decide +kernel
theorem k70_134 {d : Nat} {l0 l1 : Option PV} {st : List PV} {M : Mem} {Q : Option PV → Mem → Prop} {x y : Int32} : WP d 70 134 [l0, l1] (vi y :: vi x :: st) M Q = (if y ≤ x then WP d 70 156 [l0, l1] (st) M Q else WP d 70 137 [l0, l1] (st) M Q) := w_ic_ge mC_70 d70_134 (by decide)
theorem d70_137 : decode cX11_init 137 = .ok (.aload_n 0, 1) := by decide +kernel
theorem k70_137 {d x : Nat} {l1 : Option PV} {st : List PV} {M : Mem} {Q : Option PV → Mem → Prop} : WP d 70 137 [some (vr x), l1] (st) M Q = WP d 70 138 [some (vr x), l1] (vr x :: st) M Q := w1 mC_70 d70_137 rfl rfl
theorem d70_138 : decode cX11_init 138 = .ok (.getfield 58, 3) := by decide +kernel
theorem k70_138 {d : Nat} {l0 l1 : Option PV} {st : List PV} {M : Mem} {Q : Option PV → Mem → Prop} {r : Nat} (hk : mK M r = 11) : WP d 70 138 [l0, l1] (vr r :: st) M Q = WP d 70 141 [l0, l1] (vr (mR M r 16) :: st) M Q := w_getr mC_70 d70_138 fE_11_58 rfl (by rw [hk]; rfl)
theorem d70_141 : decode cX11_init 141 = .ok (.iload_n 1, 1) := by decide +kernel
theorem k70_141 {d : Nat} {x : Int32} {l0 : Option PV} {st : List PV} {M : Mem} {Q : Option PV → Mem → Prop} : WP d 70 141 [l0, some (vi x)] (st) M Q = WP d 70 142 [l0, some (vi x)] (vi x :: st) M Q := w1 mC_70 d70_141 rfl rfl
theorem d70_142 : decode cX11_init 142 = .ok (.new 56, 3) := by decide +kernel
theorem k70_142 {d : Nat} {l0 l1 : Option PV} {st : List PV} {M : Mem} {Q : Option PV → Mem → Prop} : WP d 70 142 [l0, l1] (st) M Q = WP d 70 145 [l0, l1] (vr (mX M) :: st) (nw M 9 0 4) Q := w_new mC_70 d70_142 (k := 9) rfl
theorem d70_145 : decode cX11_init 145 = .ok (.dup, 1) := by decide +kernel
theorem k70_145 {d : Nat} {l0 l1 : Option PV} {st : List PV} {M : Mem} {Q : Option PV → Mem → Prop} {x : Nat} : WP d 70 145 [l0, l1] (vr x :: st) M Q = WP d 70 146 [l0, l1] (vr x :: vr x :: st) M Q := w1 mC_70 d70_145 rfl rfl
theorem k70_145i {d : Nat} {l0 l1 : Option PV} {st : List PV} {M : Mem} {Q : Option PV → Mem → Prop} {x : Int32} : WP d 70 145 [l0, l1] (vi x :: st) M Q = WP d 70 146 [l0, l1] (vi x :: vi x :: st) M Q := w1 mC_70 d70_145 rfl rfl
theorem d70_146 : decode cX11_init 146 = .ok (.invokespecial 62, 3) := by decide +kernel
theorem k70_146 {d : Nat} {l0 l1 : Option PV} {st : List PV} {M : Mem} {Q : Option PV → Mem → Prop} {r : Nat} (hl : szL st ≤ 8) (hk : mK M r < 13) : WP (d + 1) 70 146 [l0, l1] (vr r :: st) M Q = WP d 58 0 [some (vr r)] [] M (fun v M' => WP (d + 1) 70 149 [l0, l1] (psh v st) M' Q) := w_callJ mC_70 d70_146 rfl rfl rfl (Nat.le_of_ble_eq_true rfl) (by decide) rfl hl hk
theorem d70_149 : decode cX11_init 149 = .ok (.aastore, 1) := by decide +kernel
theorem k70_149 {d : Nat} {l0 l1 : Option PV} {st : List PV} {M : Mem} {Q : Option PV → Mem → Prop} {r q : Nat} {j : Int32} (hk : okA (mK M r) (mK M q) = true) (hj : inb j (mN M r)) (h1 : r ≠ 1) (h2 : q ≠ 1) : WP d 70 149 [l0, l1] (vr q :: vi j :: vr r :: st) M Q = WP d 70 150 [l0, l1] (st) (sR M r (ix j) q) Q := w_aast mC_70 d70_149 hk hj h1 h2
theorem d70_150 : decode cX11_init 150 = .ok (.iinc 1 1, 3) := by decide +kernel
theorem k70_150 {d : Nat} {x : Int32} {l0 : Option PV} {st : List PV} {M : Mem} {Q : Option PV → Mem → Prop} : WP d 70 150 [l0, some (vi x)] (st) M Q = WP d 70 153 [l0, some (vi (x + 1))] (st) M Q := w_iinc mC_70 d70_150 rfl (by decide) rfl
theorem d70_153 : decode cX11_init 153 = .ok (.goto (-22), 3) := by decide +kernel
theorem k70_153 {d : Nat} {l0 l1 : Option PV} {st : List PV} {M : Mem} {Q : Option PV → Mem → Prop} : WP d 70 153 [l0, l1] (st) M Q = WP d 70 131 [l0, l1] (st) M Q := w_goto mC_70 d70_153 (by decide)
theorem d70_156 : decode cX11_init 156 = .ok (.return_, 1) := by decide +kernel
theorem k70_156 {d : Nat} {l0 l1 : Option PV} {M : Mem} {Q : Option PV → Mem → Prop} : WP d 70 156 [l0, l1] ([]) M Q = Q none M := w_vret mC_70 d70_156 rfl
theorem d71_0 : decode cX11_girl 0 = .ok (.aload_n 0, 1) := by decide +kernel
theorem k71_0 {d x : Nat} {l1 : Option PV} {st : List PV} {M : Mem} {Q : Option PV → Mem → Prop} : WP d 71 0 [some (vr x), l1] (st) M Q = WP d 71 1 [some (vr x), l1] (vr x :: st) M Q := w1 mC_71 d71_0 rfl rfl
theorem d71_1 : decode cX11_girl 1 = .ok (.iconst 0, 1) := by decide +kernel
theorem k71_1 {d : Nat} {l0 l1 : Option PV} {st : List PV} {M : Mem} {Q : Option PV → Mem → Prop} : WP d 71 1 [l0, l1] (st) M Q = WP d 71 2 [l0, l1] (vi 0 :: st) M Q := w_iconst mC_71 d71_1 (by decide)
theorem d71_2 : decode cX11_girl 2 = .ok (.iload_n 1, 1) := by decide +kernel
theorem k71_2 {d : Nat} {x : Int32} {l0 : Option PV} {st : List PV} {M : Mem} {Q : Option PV → Mem → Prop} : WP d 71 2 [l0, some (vi x)] (st) M Q = WP d 71 3 [l0, some (vi x)] (vi x :: st) M Q := w1 mC_71 d71_2 rfl rfl
theorem d71_3 : decode cX11_girl 3 = .ok (.invokevirtual 63, 3) := by decide +kernel
theorem k71_3 {d : Nat} {l0 l1 : Option PV} {st : List PV} {M : Mem} {Q : Option PV → Mem → Prop} {a0 a1 : Int32} {r : Nat} (hl : szL st ≤ 8) (hk : mK M r = 11) : WP (d + 1) 71 3 [l0, l1] (vi a1 :: vi a0 :: vr r :: st) M Q = WP d 76 0 [some (vr r), some (vi a0), some (vi a1)] [] M (fun v M' => WP (d + 1) 71 6 [l0, l1] (psh v st) M' Q) := w_callV mC_71 d71_3 (ci := 11) rfl rfl rfl (Nat.le_of_ble_eq_true rfl) (by decide) rfl hl (Or.inl hk)
theorem d71_6 : decode cX11_girl 6 = .ok (.ifCond .eq 14, 3) := by decide +kernel
theorem k71_6 {d : Nat} {l0 l1 : Option PV} {st : List PV} {M : Mem} {Q : Option PV → Mem → Prop} {x : Int32} : WP d 71 6 [l0, l1] (vi x :: st) M Q = (if x = 0 then WP d 71 20 [l0, l1] (st) M Q else WP d 71 9 [l0, l1] (st) M Q) := w_if_eq mC_71 d71_6 (by decide)
theorem d71_9 : decode cX11_girl 9 = .ok (.aload_n 0, 1) := by decide +kernel
theorem k71_9 {d x : Nat} {l1 : Option PV} {st : List PV} {M : Mem} {Q : Option PV → Mem → Prop} : WP d 71 9 [some (vr x), l1] (st) M Q = WP d 71 10 [some (vr x), l1] (vr x :: st) M Q := w1 mC_71 d71_9 rfl rfl
theorem d71_10 : decode cX11_girl 10 = .ok (.getfield 10, 3) := by decide +kernel
theorem k71_10 {d : Nat} {l0 l1 : Option PV} {st : List PV} {M : Mem} {Q : Option PV → Mem → Prop} {r : Nat} (hk : mK M r = 11) : WP d 71 10 [l0, l1] (vr r :: st) M Q = WP d 71 13 [l0, l1] (vr (mR M r 0) :: st) M Q := w_getr mC_71 d71_10 fE_11_10 rfl (by rw [hk]; rfl)
theorem d71_13 : decode cX11_girl 13 = .ok (.iload_n 1, 1) := by decide +kernel
theorem k71_13 {d : Nat} {x : Int32} {l0 : Option PV} {st : List PV} {M : Mem} {Q : Option PV → Mem → Prop} : WP d 71 13 [l0, some (vi x)] (st) M Q = WP d 71 14 [l0, some (vi x)] (vi x :: st) M Q := w1 mC_71 d71_13 rfl rfl
theorem d71_14 : decode cX11_girl 14 = .ok (.invokevirtual 67, 3) := by decide +kernel
theorem k71_14 {d : Nat} {l0 l1 : Option PV} {st : List PV} {M : Mem} {Q : Option PV → Mem → Prop} {a0 : Int32} {r : Nat} (hl : szL st ≤ 8) (hk : mK M r = 4) : WP (d + 1) 71 14 [l0, l1] (vi a0 :: vr r :: st) M Q = WP d 26 0 [some (vr r), some (vi a0)] [] M (fun v M' => WP (d + 1) 71 17 [l0, l1] (psh v st) M' Q) := w_callV mC_71 d71_14 (ci := 4) rfl rfl rfl (Nat.le_of_ble_eq_true rfl) (by decide) rfl hl (Or.inl hk)
theorem d71_17 : decode cX11_girl 17 = .ok (.goto 4, 3) := by decide +kernel
theorem k71_17 {d : Nat} {l0 l1 : Option PV} {st : List PV} {M : Mem} {Q : Option PV → Mem → Prop} : WP d 71 17 [l0, l1] (st) M Q = WP d 71 21 [l0, l1] (st) M Q := w_goto mC_71 d71_17 (by decide)
theorem d71_20 : decode cX11_girl 20 = .ok (.iconst (-1), 1) := by decide +kernel
theorem k71_20 {d : Nat} {l0 l1 : Option PV} {st : List PV} {M : Mem} {Q : Option PV → Mem → Prop} : WP d 71 20 [l0, l1] (st) M Q = WP d 71 21 [l0, l1] (vi (-1) :: st) M Q := w_iconst mC_71 d71_20 (by decide)
theorem d71_21 : decode cX11_girl 21 = .ok (.ireturn, 1) := by decide +kernel
theorem k71_21 {d : Nat} {l0 l1 : Option PV} {M : Mem} {Q : Option PV → Mem → Prop} {x : Int32} : WP d 71 21 [l0, l1] ([vi x]) M Q = Q (some (vi x)) M := w_iret mC_71 d71_21 rfl
theorem d72_0 : decode cX11_frog 0 = .ok (.aload_n 0, 1) := by decide +kernel
theorem k72_0 {d x : Nat} {l1 l2 l3 : Option PV} {st : List PV} {M : Mem} {Q : Option PV → Mem → Prop} : WP d 72 0 [some (vr x), l1, l2, l3] (st) M Q = WP d 72 1 [some (vr x), l1, l2, l3] (vr x :: st) M Q := w1 mC_72 d72_0 rfl rfl
theorem d72_1 : decode cX11_frog 1 = .ok (.iconst 2, 1) := by decide +kernel
theorem k72_1 {d : Nat} {l0 l1 l2 l3 : Option PV} {st : List PV} {M : Mem} {Q : Option PV → Mem → Prop} : WP d 72 1 [l0, l1, l2, l3] (st) M Q = WP d 72 2 [l0, l1, l2, l3] (vi 2 :: st) M Q := w_iconst mC_72 d72_1 (by decide)
theorem d72_2 : decode cX11_frog 2 = .ok (.iload_n 1, 1) := by decide +kernel
theorem k72_2 {d : Nat} {x : Int32} {l0 l2 l3 : Option PV} {st : List PV} {M : Mem} {Q : Option PV → Mem → Prop} : WP d 72 2 [l0, some (vi x), l2, l3] (st) M Q = WP d 72 3 [l0, some (vi x), l2, l3] (vi x :: st) M Q := w1 mC_72 d72_2 rfl rfl
theorem d72_3 : decode cX11_frog 3 = .ok (.invokevirtual 63, 3) := by decide +kernel
theorem k72_3 {d : Nat} {l0 l1 l2 l3 : Option PV} {st : List PV} {M : Mem} {Q : Option PV → Mem → Prop} {a0 a1 : Int32} {r : Nat} (hl : szL st ≤ 8) (hk : mK M r = 11) : WP (d + 1) 72 3 [l0, l1, l2, l3] (vi a1 :: vi a0 :: vr r :: st) M Q = WP d 76 0 [some (vr r), some (vi a0), some (vi a1)] [] M (fun v M' => WP (d + 1) 72 6 [l0, l1, l2, l3] (psh v st) M' Q) := w_callV mC_72 d72_3 (ci := 11) rfl rfl rfl (Nat.le_of_ble_eq_true rfl) (by decide) rfl hl (Or.inl hk)
theorem d72_6 : decode cX11_frog 6 = .ok (.ifCond .eq 16, 3) := by decide +kernel
theorem k72_6 {d : Nat} {l0 l1 l2 l3 : Option PV} {st : List PV} {M : Mem} {Q : Option PV → Mem → Prop} {x : Int32} : WP d 72 6 [l0, l1, l2, l3] (vi x :: st) M Q = (if x = 0 then WP d 72 22 [l0, l1, l2, l3] (st) M Q else WP d 72 9 [l0, l1, l2, l3] (st) M Q) := w_if_eq mC_72 d72_6 (by decide)
theorem d72_9 : decode cX11_frog 9 = .ok (.aload_n 0, 1) := by decide +kernel
theorem k72_9 {d x : Nat} {l1 l2 l3 : Option PV} {st : List PV} {M : Mem} {Q : Option PV → Mem → Prop} : WP d 72 9 [some (vr x), l1, l2, l3] (st) M Q = WP d 72 10 [some (vr x), l1, l2, l3] (vr x :: st) M Q := w1 mC_72 d72_9 rfl rfl
theorem d72_10 : decode cX11_frog 10 = .ok (.iconst 3, 1) := by decide +kernel
theorem k72_10 {d : Nat} {l0 l1 l2 l3 : Option PV} {st : List PV} {M : Mem} {Q : Option PV → Mem → Prop} : WP d 72 10 [l0, l1, l2, l3] (st) M Q = WP d 72 11 [l0, l1, l2, l3] (vi 3 :: st) M Q := w_iconst mC_72 d72_10 (by decide)
theorem d72_11 : decode cX11_frog 11 = .ok (.iload_n 2, 1) := by decide +kernel
theorem k72_11 {d : Nat} {x : Int32} {l0 l1 l3 : Option PV} {st : List PV} {M : Mem} {Q : Option PV → Mem → Prop} : WP d 72 11 [l0, l1, some (vi x), l3] (st) M Q = WP d 72 12 [l0, l1, some (vi x), l3] (vi x :: st) M Q := w1 mC_72 d72_11 rfl rfl
theorem d72_12 : decode cX11_frog 12 = .ok (.invokevirtual 63, 3) := by decide +kernel
theorem k72_12 {d : Nat} {l0 l1 l2 l3 : Option PV} {st : List PV} {M : Mem} {Q : Option PV → Mem → Prop} {a0 a1 : Int32} {r : Nat} (hl : szL st ≤ 8) (hk : mK M r = 11) : WP (d + 1) 72 12 [l0, l1, l2, l3] (vi a1 :: vi a0 :: vr r :: st) M Q = WP d 76 0 [some (vr r), some (vi a0), some (vi a1)] [] M (fun v M' => WP (d + 1) 72 15 [l0, l1, l2, l3] (psh v st) M' Q) := w_callV mC_72 d72_12 (ci := 11) rfl rfl rfl (Nat.le_of_ble_eq_true rfl) (by decide) rfl hl (Or.inl hk)
theorem d72_15 : decode cX11_frog 15 = .ok (.ifCond .eq 7, 3) := by decide +kernel
theorem k72_15 {d : Nat} {l0 l1 l2 l3 : Option PV} {st : List PV} {M : Mem} {Q : Option PV → Mem → Prop} {x : Int32} : WP d 72 15 [l0, l1, l2, l3] (vi x :: st) M Q = (if x = 0 then WP d 72 22 [l0, l1, l2, l3] (st) M Q else WP d 72 18 [l0, l1, l2, l3] (st) M Q) := w_if_eq mC_72 d72_15 (by decide)
theorem d72_18 : decode cX11_frog 18 = .ok (.iconst 1, 1) := by decide +kernel
theorem k72_18 {d : Nat} {l0 l1 l2 l3 : Option PV} {st : List PV} {M : Mem} {Q : Option PV → Mem → Prop} : WP d 72 18 [l0, l1, l2, l3] (st) M Q = WP d 72 19 [l0, l1, l2, l3] (vi 1 :: st) M Q := w_iconst mC_72 d72_18 (by decide)
theorem d72_19 : decode cX11_frog 19 = .ok (.goto 4, 3) := by decide +kernel
theorem k72_19 {d : Nat} {l0 l1 l2 l3 : Option PV} {st : List PV} {M : Mem} {Q : Option PV → Mem → Prop} : WP d 72 19 [l0, l1, l2, l3] (st) M Q = WP d 72 23 [l0, l1, l2, l3] (st) M Q := w_goto mC_72 d72_19 (by decide)
theorem d72_22 : decode cX11_frog 22 = .ok (.iconst 0, 1) := by decide +kernel
theorem k72_22 {d : Nat} {l0 l1 l2 l3 : Option PV} {st : List PV} {M : Mem} {Q : Option PV → Mem → Prop} : WP d 72 22 [l0, l1, l2, l3] (st) M Q = WP d 72 23 [l0, l1, l2, l3] (vi 0 :: st) M Q := w_iconst mC_72 d72_22 (by decide)
theorem d72_23 : decode cX11_frog 23 = .ok (.istore_n 3, 1) := by decide +kernel
theorem k72_23 {d : Nat} {l0 l1 l2 l3 : Option PV} {st : List PV} {M : Mem} {Q : Option PV → Mem → Prop} {x : Int32} : WP d 72 23 [l0, l1, l2, l3] (vi x :: st) M Q = WP d 72 24 [l0, l1, l2, some (vi x)] (st) M Q := w1 mC_72 d72_23 rfl rfl
theorem d72_24 : decode cX11_frog 24 = .ok (.iload_n 3, 1) := by decide +kernel
theorem k72_24 {d : Nat} {x : Int32} {l0 l1 l2 : Option PV} {st : List PV} {M : Mem} {Q : Option PV → Mem → Prop} : WP d 72 24 [l0, l1, l2, some (vi x)] (st) M Q = WP d 72 25 [l0, l1, l2, some (vi x)] (vi x :: st) M Q := w1 mC_72 d72_24 rfl rfl
theorem d72_25 : decode cX11_frog 25 = .ok (.ifCond .eq 17, 3) := by decide +kernel
theorem k72_25 {d : Nat} {l0 l1 l2 l3 : Option PV} {st : List PV} {M : Mem} {Q : Option PV → Mem → Prop} {x : Int32} : WP d 72 25 [l0, l1, l2, l3] (vi x :: st) M Q = (if x = 0 then WP d 72 42 [l0, l1, l2, l3] (st) M Q else WP d 72 28 [l0, l1, l2, l3] (st) M Q) := w_if_eq mC_72 d72_25 (by decide)
theorem d72_28 : decode cX11_frog 28 = .ok (.aload_n 0, 1) := by decide +kernel
theorem k72_28 {d x : Nat} {l1 l2 l3 : Option PV} {st : List PV} {M : Mem} {Q : Option PV → Mem → Prop} : WP d 72 28 [some (vr x), l1, l2, l3] (st) M Q = WP d 72 29 [some (vr x), l1, l2, l3] (vr x :: st) M Q := w1 mC_72 d72_28 rfl rfl
theorem d72_29 : decode cX11_frog 29 = .ok (.getfield 10, 3) := by decide +kernel
theorem k72_29 {d : Nat} {l0 l1 l2 l3 : Option PV} {st : List PV} {M : Mem} {Q : Option PV → Mem → Prop} {r : Nat} (hk : mK M r = 11) : WP d 72 29 [l0, l1, l2, l3] (vr r :: st) M Q = WP d 72 32 [l0, l1, l2, l3] (vr (mR M r 0) :: st) M Q := w_getr mC_72 d72_29 fE_11_10 rfl (by rw [hk]; rfl)
theorem d72_32 : decode cX11_frog 32 = .ok (.iload_n 1, 1) := by decide +kernel
theorem k72_32 {d : Nat} {x : Int32} {l0 l2 l3 : Option PV} {st : List PV} {M : Mem} {Q : Option PV → Mem → Prop} : WP d 72 32 [l0, some (vi x), l2, l3] (st) M Q = WP d 72 33 [l0, some (vi x), l2, l3] (vi x :: st) M Q := w1 mC_72 d72_32 rfl rfl
theorem d72_33 : decode cX11_frog 33 = .ok (.iload_n 2, 1) := by decide +kernel
theorem k72_33 {d : Nat} {x : Int32} {l0 l1 l3 : Option PV} {st : List PV} {M : Mem} {Q : Option PV → Mem → Prop} : WP d 72 33 [l0, l1, some (vi x), l3] (st) M Q = WP d 72 34 [l0, l1, some (vi x), l3] (vi x :: st) M Q := w1 mC_72 d72_33 rfl rfl
theorem d72_34 : decode cX11_frog 34 = .ok (.iconst (-1), 1) := by decide +kernel
theorem k72_34 {d : Nat} {l0 l1 l2 l3 : Option PV} {st : List PV} {M : Mem} {Q : Option PV → Mem → Prop} : WP d 72 34 [l0, l1, l2, l3] (st) M Q = WP d 72 35 [l0, l1, l2, l3] (vi (-1) :: st) M Q := w_iconst mC_72 d72_34 (by decide)
theorem d72_35 : decode cX11_frog 35 = .ok (.iconst 0, 1) := by decide +kernel
theorem k72_35 {d : Nat} {l0 l1 l2 l3 : Option PV} {st : List PV} {M : Mem} {Q : Option PV → Mem → Prop} : WP d 72 35 [l0, l1, l2, l3] (st) M Q = WP d 72 36 [l0, l1, l2, l3] (vi 0 :: st) M Q := w_iconst mC_72 d72_35 (by decide)
theorem d72_36 : decode cX11_frog 36 = .ok (.invokevirtual 71, 3) := by decide +kernel
theorem k72_36 {d : Nat} {l0 l1 l2 l3 : Option PV} {st : List PV} {M : Mem} {Q : Option PV → Mem → Prop} {a0 a1 a2 a3 : Int32} {r : Nat} (hl : szL st ≤ 8) (hk : mK M r = 4) : WP (d + 1) 72 36 [l0, l1, l2, l3] (vi a3 :: vi a2 :: vi a1 :: vi a0 :: vr r :: st) M Q = WP d 27 0 [some (vr r), some (vi a0), some (vi a1), some (vi a2), some (vi a3)] [] M (fun v M' => WP (d + 1) 72 39 [l0, l1, l2, l3] (psh v st) M' Q) := w_callV mC_72 d72_36 (ci := 4) rfl rfl rfl (Nat.le_of_ble_eq_true rfl) (by decide) rfl hl (Or.inl hk)
theorem d72_39 : decode cX11_frog 39 = .ok (.goto 4, 3) := by decide +kernel
theorem k72_39 {d : Nat} {l0 l1 l2 l3 : Option PV} {st : List PV} {M : Mem} {Q : Option PV → Mem → Prop} : WP d 72 39 [l0, l1, l2, l3] (st) M Q = WP d 72 43 [l0, l1, l2, l3] (st) M Q := w_goto mC_72 d72_39 (by decide)
theorem d72_42 : decode cX11_frog 42 = .ok (.iconst (-1), 1) := by decide +kernel
theorem k72_42 {d : Nat} {l0 l1 l2 l3 : Option PV} {st : List PV} {M : Mem} {Q : Option PV → Mem → Prop} : WP d 72 42 [l0, l1, l2, l3] (st) M Q = WP d 72 43 [l0, l1, l2, l3] (vi (-1) :: st) M Q := w_iconst mC_72 d72_42 (by decide)
theorem d72_43 : decode cX11_frog 43 = .ok (.ireturn, 1) := by decide +kernel
theorem k72_43 {d : Nat} {l0 l1 l2 l3 : Option PV} {M : Mem} {Q : Option PV → Mem → Prop} {x : Int32} : WP d 72 43 [l0, l1, l2, l3] ([vi x]) M Q = Q (some (vi x)) M := w_iret mC_72 d72_43 rfl
theorem d75_0 : decode cX11_mend 0 = .ok (.aload_n 0, 1) := by decide +kernel
theorem k75_0 {d x : Nat} {l1 l2 l3 l4 : Option PV} {st : List PV} {M : Mem} {Q : Option PV → Mem → Prop} : WP d 75 0 [some (vr x), l1, l2, l3, l4] (st) M Q = WP d 75 1 [some (vr x), l1, l2, l3, l4] (vr x :: st) M Q := w1 mC_75 d75_0 rfl rfl
theorem d75_1 : decode cX11_mend 1 = .ok (.getfield 10, 3) := by decide +kernel
theorem k75_1 {d : Nat} {l0 l1 l2 l3 l4 : Option PV} {st : List PV} {M : Mem} {Q : Option PV → Mem → Prop} {r : Nat} (hk : mK M r = 11) : WP d 75 1 [l0, l1, l2, l3, l4] (vr r :: st) M Q = WP d 75 4 [l0, l1, l2, l3, l4] (vr (mR M r 0) :: st) M Q := w_getr mC_75 d75_1 fE_11_10 rfl (by rw [hk]; rfl)
theorem d75_4 : decode cX11_mend 4 = .ok (.iload_n 1, 1) := by decide +kernel
theorem k75_4 {d : Nat} {x : Int32} {l0 l2 l3 l4 : Option PV} {st : List PV} {M : Mem} {Q : Option PV → Mem → Prop} : WP d 75 4 [l0, some (vi x), l2, l3, l4] (st) M Q = WP d 75 5 [l0, some (vi x), l2, l3, l4] (vi x :: st) M Q := w1 mC_75 d75_4 rfl rfl
theorem d75_5 : decode cX11_mend 5 = .ok (.iload_n 2, 1) := by decide +kernel
theorem k75_5 {d : Nat} {x : Int32} {l0 l1 l3 l4 : Option PV} {st : List PV} {M : Mem} {Q : Option PV → Mem → Prop} : WP d 75 5 [l0, l1, some (vi x), l3, l4] (st) M Q = WP d 75 6 [l0, l1, some (vi x), l3, l4] (vi x :: st) M Q := w1 mC_75 d75_5 rfl rfl
theorem d75_6 : decode cX11_mend 6 = .ok (.invokevirtual 101, 3) := by decide +kernel
theorem k75_6 {d : Nat} {l0 l1 l2 l3 l4 : Option PV} {st : List PV} {M : Mem} {Q : Option PV → Mem → Prop} {a0 a1 : Int32} {r : Nat} (hl : szL st ≤ 8) (hk : mK M r = 4) : WP (d + 1) 75 6 [l0, l1, l2, l3, l4] (vi a1 :: vi a0 :: vr r :: st) M Q = WP d 28 0 [some (vr r), some (vi a0), some (vi a1)] [] M (fun v M' => WP (d + 1) 75 9 [l0, l1, l2, l3, l4] (psh v st) M' Q) := w_callV mC_75 d75_6 (ci := 4) rfl rfl rfl (Nat.le_of_ble_eq_true rfl) (by decide) rfl hl (Or.inl hk)
theorem d75_9 : decode cX11_mend 9 = .ok (.ifCond .eq 12, 3) := by decide +kernel
theorem k75_9 {d : Nat} {l0 l1 l2 l3 l4 : Option PV} {st : List PV} {M : Mem} {Q : Option PV → Mem → Prop} {x : Int32} : WP d 75 9 [l0, l1, l2, l3, l4] (vi x :: st) M Q = (if x = 0 then WP d 75 21 [l0, l1, l2, l3, l4] (st) M Q else WP d 75 12 [l0, l1, l2, l3, l4] (st) M Q) := w_if_eq mC_75 d75_9 (by decide)
theorem d75_12 : decode cX11_mend 12 = .ok (.aload_n 0, 1) := by decide +kernel
theorem k75_12 {d x : Nat} {l1 l2 l3 l4 : Option PV} {st : List PV} {M : Mem} {Q : Option PV → Mem → Prop} : WP d 75 12 [some (vr x), l1, l2, l3, l4] (st) M Q = WP d 75 13 [some (vr x), l1, l2, l3, l4] (vr x :: st) M Q := w1 mC_75 d75_12 rfl rfl
theorem d75_13 : decode cX11_mend 13 = .ok (.iload_n 2, 1) := by decide +kernel
theorem k75_13 {d : Nat} {x : Int32} {l0 l1 l3 l4 : Option PV} {st : List PV} {M : Mem} {Q : Option PV → Mem → Prop} : WP d 75 13 [l0, l1, some (vi x), l3, l4] (st) M Q = WP d 75 14 [l0, l1, some (vi x), l3, l4] (vi x :: st) M Q := w1 mC_75 d75_13 rfl rfl
theorem d75_14 : decode cX11_mend 14 = .ok (.iload_n 3, 1) := by decide +kernel
theorem k75_14 {d : Nat} {x : Int32} {l0 l1 l2 l4 : Option PV} {st : List PV} {M : Mem} {Q : Option PV → Mem → Prop} : WP d 75 14 [l0, l1, l2, some (vi x), l4] (st) M Q = WP d 75 15 [l0, l1, l2, some (vi x), l4] (vi x :: st) M Q := w1 mC_75 d75_14 rfl rfl
theorem d75_15 : decode cX11_mend 15 = .ok (.invokevirtual 63, 3) := by decide +kernel
theorem k75_15 {d : Nat} {l0 l1 l2 l3 l4 : Option PV} {st : List PV} {M : Mem} {Q : Option PV → Mem → Prop} {a0 a1 : Int32} {r : Nat} (hl : szL st ≤ 8) (hk : mK M r = 11) : WP (d + 1) 75 15 [l0, l1, l2, l3, l4] (vi a1 :: vi a0 :: vr r :: st) M Q = WP d 76 0 [some (vr r), some (vi a0), some (vi a1)] [] M (fun v M' => WP (d + 1) 75 18 [l0, l1, l2, l3, l4] (psh v st) M' Q) := w_callV mC_75 d75_15 (ci := 11) rfl rfl rfl (Nat.le_of_ble_eq_true rfl) (by decide) rfl hl (Or.inl hk)
theorem d75_18 : decode cX11_mend 18 = .ok (.ifCond .ne 6, 3) := by decide +kernel
theorem k75_18 {d : Nat} {l0 l1 l2 l3 l4 : Option PV} {st : List PV} {M : Mem} {Q : Option PV → Mem → Prop} {x : Int32} : WP d 75 18 [l0, l1, l2, l3, l4] (vi x :: st) M Q = (if x = 0 then WP d 75 21 [l0, l1, l2, l3, l4] (st) M Q else WP d 75 24 [l0, l1, l2, l3, l4] (st) M Q) := w_if_ne mC_75 d75_18 (by decide)
theorem d75_21 : decode cX11_mend 21 = .ok (.ldc 104, 2) := by decide +kernel
theorem k75_21 {d : Nat} {l0 l1 l2 l3 l4 : Option PV} {st : List PV} {M : Mem} {Q : Option PV → Mem → Prop} : WP d 75 21 [l0, l1, l2, l3, l4] (st) M Q = WP d 75 23 [l0, l1, l2, l3, l4] (vi (-2000000000) :: st) M Q := w_ldc mC_75 d75_21 rfl
theorem d75_23 : decode cX11_mend 23 = .ok (.ireturn, 1) := by decide +kernel
theorem k75_23 {d : Nat} {l0 l1 l2 l3 l4 : Option PV} {M : Mem} {Q : Option PV → Mem → Prop} {x : Int32} : WP d 75 23 [l0, l1, l2, l3, l4] ([vi x]) M Q = Q (some (vi x)) M := w_iret mC_75 d75_23 rfl
theorem d75_24 : decode cX11_mend 24 = .ok (.aload_n 0, 1) := by decide +kernel
theorem k75_24 {d x : Nat} {l1 l2 l3 l4 : Option PV} {st : List PV} {M : Mem} {Q : Option PV → Mem → Prop} : WP d 75 24 [some (vr x), l1, l2, l3, l4] (st) M Q = WP d 75 25 [some (vr x), l1, l2, l3, l4] (vr x :: st) M Q := w1 mC_75 d75_24 rfl rfl
theorem d75_25 : decode cX11_mend 25 = .ok (.getfield 10, 3) := by decide +kernel
theorem k75_25 {d : Nat} {l0 l1 l2 l3 l4 : Option PV} {st : List PV} {M : Mem} {Q : Option PV → Mem → Prop} {r : Nat} (hk : mK M r = 11) : WP d 75 25 [l0, l1, l2, l3, l4] (vr r :: st) M Q = WP d 75 28 [l0, l1, l2, l3, l4] (vr (mR M r 0) :: st) M Q := w_getr mC_75 d75_25 fE_11_10 rfl (by rw [hk]; rfl)
theorem d75_28 : decode cX11_mend 28 = .ok (.iload_n 1, 1) := by decide +kernel
theorem k75_28 {d : Nat} {x : Int32} {l0 l2 l3 l4 : Option PV} {st : List PV} {M : Mem} {Q : Option PV → Mem → Prop} : WP d 75 28 [l0, some (vi x), l2, l3, l4] (st) M Q = WP d 75 29 [l0, some (vi x), l2, l3, l4] (vi x :: st) M Q := w1 mC_75 d75_28 rfl rfl
theorem d75_29 : decode cX11_mend 29 = .ok (.iload_n 2, 1) := by decide +kernel
theorem k75_29 {d : Nat} {x : Int32} {l0 l1 l3 l4 : Option PV} {st : List PV} {M : Mem} {Q : Option PV → Mem → Prop} : WP d 75 29 [l0, l1, some (vi x), l3, l4] (st) M Q = WP d 75 30 [l0, l1, some (vi x), l3, l4] (vi x :: st) M Q := w1 mC_75 d75_29 rfl rfl
theorem d75_30 : decode cX11_mend 30 = .ok (.invokevirtual 105, 3) := by decide +kernel
theorem k75_30 {d : Nat} {l0 l1 l2 l3 l4 : Option PV} {st : List PV} {M : Mem} {Q : Option PV → Mem → Prop} {a0 a1 : Int32} {r : Nat} (hl : szL st ≤ 8) (hk : mK M r = 4) : WP (d + 1) 75 30 [l0, l1, l2, l3, l4] (vi a1 :: vi a0 :: vr r :: st) M Q = WP d 29 0 [some (vr r), some (vi a0), some (vi a1)] [] M (fun v M' => WP (d + 1) 75 33 [l0, l1, l2, l3, l4] (psh v st) M' Q) := w_callV mC_75 d75_30 (ci := 4) rfl rfl rfl (Nat.le_of_ble_eq_true rfl) (by decide) rfl hl (Or.inl hk)
theorem d75_33 : decode cX11_mend 33 = .ok (.istore 4, 2) := by decide +kernel
theorem k75_33 {d : Nat} {l0 l1 l2 l3 l4 : Option PV} {st : List PV} {M : Mem} {Q : Option PV → Mem → Prop} {x : Int32} : WP d 75 33 [l0, l1, l2, l3, l4] (vi x :: st) M Q = WP d 75 35 [l0, l1, l2, l3, some (vi x)] (st) M Q := w1 mC_75 d75_33 rfl rfl
theorem d75_35 : decode cX11_mend 35 = .ok (.iload 4, 2) := by decide +kernel
theorem k75_35 {d : Nat} {x : Int32} {l0 l1 l2 l3 : Option PV} {st : List PV} {M : Mem} {Q : Option PV → Mem → Prop} : WP d 75 35 [l0, l1, l2, l3, some (vi x)] (st) M Q = WP d 75 37 [l0, l1, l2, l3, some (vi x)] (vi x :: st) M Q := w1 mC_75 d75_35 rfl rfl
theorem d75_37 : decode cX11_mend 37 = .ok (.iload_n 3, 1) := by decide +kernel
theorem k75_37 {d : Nat} {x : Int32} {l0 l1 l2 l4 : Option PV} {st : List PV} {M : Mem} {Q : Option PV → Mem → Prop} : WP d 75 37 [l0, l1, l2, some (vi x), l4] (st) M Q = WP d 75 38 [l0, l1, l2, some (vi x), l4] (vi x :: st) M Q := w1 mC_75 d75_37 rfl rfl
theorem d75_38 : decode cX11_mend 38 = .ok (.if_icmp .eq 22, 3) := by decide +kernel
theorem k75_38 {d : Nat} {l0 l1 l2 l3 l4 : Option PV} {st : List PV} {M : Mem} {Q : Option PV → Mem → Prop} {x y : Int32} : WP d 75 38 [l0, l1, l2, l3, l4] (vi y :: vi x :: st) M Q = (if x = y then WP d 75 60 [l0, l1, l2, l3, l4] (st) M Q else WP d 75 41 [l0, l1, l2, l3, l4] (st) M Q) := w_ic_eq mC_75 d75_38 (by decide)
theorem d75_41 : decode cX11_mend 41 = .ok (.aload_n 0, 1) := by decide +kernel
theorem k75_41 {d x : Nat} {l1 l2 l3 l4 : Option PV} {st : List PV} {M : Mem} {Q : Option PV → Mem → Prop} : WP d 75 41 [some (vr x), l1, l2, l3, l4] (st) M Q = WP d 75 42 [some (vr x), l1, l2, l3, l4] (vr x :: st) M Q := w1 mC_75 d75_41 rfl rfl
theorem d75_42 : decode cX11_mend 42 = .ok (.iload_n 1, 1) := by decide +kernel
theorem k75_42 {d : Nat} {x : Int32} {l0 l2 l3 l4 : Option PV} {st : List PV} {M : Mem} {Q : Option PV → Mem → Prop} : WP d 75 42 [l0, some (vi x), l2, l3, l4] (st) M Q = WP d 75 43 [l0, some (vi x), l2, l3, l4] (vi x :: st) M Q := w1 mC_75 d75_42 rfl rfl
theorem d75_43 : decode cX11_mend 43 = .ok (.iload_n 2, 1) := by decide +kernel
theorem k75_43 {d : Nat} {x : Int32} {l0 l1 l3 l4 : Option PV} {st : List PV} {M : Mem} {Q : Option PV → Mem → Prop} : WP d 75 43 [l0, l1, some (vi x), l3, l4] (st) M Q = WP d 75 44 [l0, l1, some (vi x), l3, l4] (vi x :: st) M Q := w1 mC_75 d75_43 rfl rfl
theorem d75_44 : decode cX11_mend 44 = .ok (.iload 4, 2) := by decide +kernel
theorem k75_44 {d : Nat} {x : Int32} {l0 l1 l2 l3 : Option PV} {st : List PV} {M : Mem} {Q : Option PV → Mem → Prop} : WP d 75 44 [l0, l1, l2, l3, some (vi x)] (st) M Q = WP d 75 46 [l0, l1, l2, l3, some (vi x)] (vi x :: st) M Q := w1 mC_75 d75_44 rfl rfl
theorem d75_46 : decode cX11_mend 46 = .ok (.iload_n 3, 1) := by decide +kernel
theorem k75_46 {d : Nat} {x : Int32} {l0 l1 l2 l4 : Option PV} {st : List PV} {M : Mem} {Q : Option PV → Mem → Prop} : WP d 75 46 [l0, l1, l2, some (vi x), l4] (st) M Q = WP d 75 47 [l0, l1, l2, some (vi x), l4] (vi x :: st) M Q := w1 mC_75 d75_46 rfl rfl
theorem d75_47 : decode cX11_mend 47 = .ok (.invokevirtual 109, 3) := by decide +kernel
theorem k75_47 {d : Nat} {l0 l1 l2 l3 l4 : Option PV} {st : List PV} {M : Mem} {Q : Option PV → Mem → Prop} {a0 a1 a2 a3 : Int32} {r : Nat} (hl : szL st ≤ 8) (hk : mK M r = 11) : WP (d + 1) 75 47 [l0, l1, l2, l3, l4] (vi a3 :: vi a2 :: vi a1 :: vi a0 :: vr r :: st) M Q = WP d 124 0 [some (vr r), some (vi a0), some (vi a1), some (vi a2), some (vi a3), none] [] M (fun v M' => WP (d + 1) 75 50 [l0, l1, l2, l3, l4] (psh v st) M' Q) := w_callV mC_75 d75_47 (ci := 11) rfl rfl rfl (Nat.le_of_ble_eq_true rfl) (by decide) rfl hl (Or.inl hk)
theorem d75_50 : decode cX11_mend 50 = .ok (.aload_n 0, 1) := by decide +kernel
theorem k75_50 {d x : Nat} {l1 l2 l3 l4 : Option PV} {st : List PV} {M : Mem} {Q : Option PV → Mem → Prop} : WP d 75 50 [some (vr x), l1, l2, l3, l4] (st) M Q = WP d 75 51 [some (vr x), l1, l2, l3, l4] (vr x :: st) M Q := w1 mC_75 d75_50 rfl rfl
theorem d75_51 : decode cX11_mend 51 = .ok (.getfield 10, 3) := by decide +kernel
theorem k75_51 {d : Nat} {l0 l1 l2 l3 l4 : Option PV} {st : List PV} {M : Mem} {Q : Option PV → Mem → Prop} {r : Nat} (hk : mK M r = 11) : WP d 75 51 [l0, l1, l2, l3, l4] (vr r :: st) M Q = WP d 75 54 [l0, l1, l2, l3, l4] (vr (mR M r 0) :: st) M Q := w_getr mC_75 d75_51 fE_11_10 rfl (by rw [hk]; rfl)
theorem d75_54 : decode cX11_mend 54 = .ok (.iload_n 1, 1) := by decide +kernel
theorem k75_54 {d : Nat} {x : Int32} {l0 l2 l3 l4 : Option PV} {st : List PV} {M : Mem} {Q : Option PV → Mem → Prop} : WP d 75 54 [l0, some (vi x), l2, l3, l4] (st) M Q = WP d 75 55 [l0, some (vi x), l2, l3, l4] (vi x :: st) M Q := w1 mC_75 d75_54 rfl rfl
theorem d75_55 : decode cX11_mend 55 = .ok (.iload_n 2, 1) := by decide +kernel
theorem k75_55 {d : Nat} {x : Int32} {l0 l1 l3 l4 : Option PV} {st : List PV} {M : Mem} {Q : Option PV → Mem → Prop} : WP d 75 55 [l0, l1, some (vi x), l3, l4] (st) M Q = WP d 75 56 [l0, l1, some (vi x), l3, l4] (vi x :: st) M Q := w1 mC_75 d75_55 rfl rfl
theorem d75_56 : decode cX11_mend 56 = .ok (.iload_n 3, 1) := by decide +kernel
theorem k75_56 {d : Nat} {x : Int32} {l0 l1 l2 l4 : Option PV} {st : List PV} {M : Mem} {Q : Option PV → Mem → Prop} : WP d 75 56 [l0, l1, l2, some (vi x), l4] (st) M Q = WP d 75 57 [l0, l1, l2, some (vi x), l4] (vi x :: st) M Q := w1 mC_75 d75_56 rfl rfl
theorem d75_57 : decode cX11_mend 57 = .ok (.invokevirtual 113, 3) := by decide +kernel
theorem k75_57 {d : Nat} {l0 l1 l2 l3 l4 : Option PV} {st : List PV} {M : Mem} {Q : Option PV → Mem → Prop} {a0 a1 a2 : Int32} {r : Nat} (hl : szL st ≤ 8) (hk : mK M r = 4) : WP (d + 1) 75 57 [l0, l1, l2, l3, l4] (vi a2 :: vi a1 :: vi a0 :: vr r :: st) M Q = WP d 30 0 [some (vr r), some (vi a0), some (vi a1), some (vi a2)] [] M (fun v M' => WP (d + 1) 75 60 [l0, l1, l2, l3, l4] (psh v st) M' Q) := w_callV mC_75 d75_57 (ci := 4) rfl rfl rfl (Nat.le_of_ble_eq_true rfl) (by decide) rfl hl (Or.inl hk)
theorem d75_60 : decode cX11_mend 60 = .ok (.iload 4, 2) := by decide +kernel
theorem k75_60 {d : Nat} {x : Int32} {l0 l1 l2 l3 : Option PV} {st : List PV} {M : Mem} {Q : Option PV → Mem → Prop} : WP d 75 60 [l0, l1, l2, l3, some (vi x)] (st) M Q = WP d 75 62 [l0, l1, l2, l3, some (vi x)] (vi x :: st) M Q := w1 mC_75 d75_60 rfl rfl
theorem d75_62 : decode cX11_mend 62 = .ok (.ireturn, 1) := by decide +kernel
theorem k75_62 {d : Nat} {l0 l1 l2 l3 l4 : Option PV} {M : Mem} {Q : Option PV → Mem → Prop} {x : Int32} : WP d 75 62 [l0, l1, l2, l3, l4] ([vi x]) M Q = Q (some (vi x)) M := w_iret mC_75 d75_62 rfl
theorem d76_0 : decode cX11_mayBe 0 = .ok (.iload_n 1, 1) := by decide +kernel
theorem k76_0 {d : Nat} {x : Int32} {l0 l2 : Option PV} {st : List PV} {M : Mem} {Q : Option PV → Mem → Prop} : WP d 76 0 [l0, some (vi x), l2] (st) M Q = WP d 76 1 [l0, some (vi x), l2] (vi x :: st) M Q := w1 mC_76 d76_0 rfl rfl
theorem d76_1 : decode cX11_mayBe 1 = .ok (.tableswitch 101 0 7 #[47, 55, 47, 63, 71, 55, 93, 93], 47) := by decide +kernel
theorem k76_1c0 {d : Nat} {l0 l1 l2 : Option PV} {st : List PV} {M : Mem} {Q : Option PV → Mem → Prop} : WP d 76 1 [l0, l1, l2] (vi 0 :: st) M Q = WP d 76 48 [l0, l1, l2] (st) M Q := w_sw mC_76 d76_1 (by decide +kernel)
theorem k76_1c1 {d : Nat} {l0 l1 l2 : Option PV} {st : List PV} {M : Mem} {Q : Option PV → Mem → Prop} : WP d 76 1 [l0, l1, l2] (vi 1 :: st) M Q = WP d 76 56 [l0, l1, l2] (st) M Q := w_sw mC_76 d76_1 (by decide +kernel)
theorem k76_1c2 {d : Nat} {l0 l1 l2 : Option PV} {st : List PV} {M : Mem} {Q : Option PV → Mem → Prop} : WP d 76 1 [l0, l1, l2] (vi 2 :: st) M Q = WP d 76 48 [l0, l1, l2] (st) M Q := w_sw mC_76 d76_1 (by decide +kernel)
theorem k76_1c3 {d : Nat} {l0 l1 l2 : Option PV} {st : List PV} {M : Mem} {Q : Option PV → Mem → Prop} : WP d 76 1 [l0, l1, l2] (vi 3 :: st) M Q = WP d 76 64 [l0, l1, l2] (st) M Q := w_sw mC_76 d76_1 (by decide +kernel)
theorem k76_1c4 {d : Nat} {l0 l1 l2 : Option PV} {st : List PV} {M : Mem} {Q : Option PV → Mem → Prop} : WP d 76 1 [l0, l1, l2] (vi 4 :: st) M Q = WP d 76 72 [l0, l1, l2] (st) M Q := w_sw mC_76 d76_1 (by decide +kernel)
theorem k76_1c5 {d : Nat} {l0 l1 l2 : Option PV} {st : List PV} {M : Mem} {Q : Option PV → Mem → Prop} : WP d 76 1 [l0, l1, l2] (vi 5 :: st) M Q = WP d 76 56 [l0, l1, l2] (st) M Q := w_sw mC_76 d76_1 (by decide +kernel)
theorem k76_1c6 {d : Nat} {l0 l1 l2 : Option PV} {st : List PV} {M : Mem} {Q : Option PV → Mem → Prop} : WP d 76 1 [l0, l1, l2] (vi 6 :: st) M Q = WP d 76 94 [l0, l1, l2] (st) M Q := w_sw mC_76 d76_1 (by decide +kernel)
theorem k76_1c7 {d : Nat} {l0 l1 l2 : Option PV} {st : List PV} {M : Mem} {Q : Option PV → Mem → Prop} : WP d 76 1 [l0, l1, l2] (vi 7 :: st) M Q = WP d 76 94 [l0, l1, l2] (st) M Q := w_sw mC_76 d76_1 (by decide +kernel)
theorem k76_1 {d : Nat} {l0 l1 l2 : Option PV} {st : List PV} {M : Mem} {Q : Option PV → Mem → Prop} {x : Int32} (h : x.toInt < 0 ∨ 7 < x.toInt) : WP d 76 1 [l0, l1, l2] (vi x :: st) M Q = WP d 76 102 [l0, l1, l2] (st) M Q := w_swd mC_76 d76_1 (by decide) h
theorem d76_48 : decode cX11_mayBe 48 = .ok (.iload_n 2, 1) := by decide +kernel
theorem k76_48 {d : Nat} {x : Int32} {l0 l1 : Option PV} {st : List PV} {M : Mem} {Q : Option PV → Mem → Prop} : WP d 76 48 [l0, l1, some (vi x)] (st) M Q = WP d 76 49 [l0, l1, some (vi x)] (vi x :: st) M Q := w1 mC_76 d76_48 rfl rfl
theorem d76_49 : decode cX11_mayBe 49 = .ok (.iconst 0, 1) := by decide +kernel
theorem k76_49 {d : Nat} {l0 l1 l2 : Option PV} {st : List PV} {M : Mem} {Q : Option PV → Mem → Prop} : WP d 76 49 [l0, l1, l2] (st) M Q = WP d 76 50 [l0, l1, l2] (vi 0 :: st) M Q := w_iconst mC_76 d76_49 (by decide)
theorem d76_50 : decode cX11_mayBe 50 = .ok (.bipush 35, 2) := by decide +kernel
theorem k76_50 {d : Nat} {l0 l1 l2 : Option PV} {st : List PV} {M : Mem} {Q : Option PV → Mem → Prop} : WP d 76 50 [l0, l1, l2] (st) M Q = WP d 76 52 [l0, l1, l2] (vi 35 :: st) M Q := w_bipush mC_76 d76_50 (by decide)
theorem d76_52 : decode cX11_mayBe 52 = .ok (.invokestatic 79, 3) := by decide +kernel
theorem k76_52 {d : Nat} {l0 l1 l2 : Option PV} {st : List PV} {M : Mem} {Q : Option PV → Mem → Prop} {a0 a1 a2 : Int32} (hl : szL st ≤ 8) : WP (d + 1) 76 52 [l0, l1, l2] (vi a2 :: vi a1 :: vi a0 :: st) M Q = WP d 141 0 [some (vi a0), some (vi a1), some (vi a2)] [] M (fun v M' => WP (d + 1) 76 55 [l0, l1, l2] (psh v st) M' Q) := w_callS mC_76 d76_52 rfl rfl (Nat.le_of_ble_eq_true rfl) (by decide) rfl hl
theorem d76_55 : decode cX11_mayBe 55 = .ok (.ireturn, 1) := by decide +kernel
theorem k76_55 {d : Nat} {l0 l1 l2 : Option PV} {M : Mem} {Q : Option PV → Mem → Prop} {x : Int32} (hx : x = 0 ∨ x = 1) : WP d 76 55 [l0, l1, l2] ([vi x]) M Q = Q (some (vi x)) M := w_zret mC_76 d76_55 rfl hx
theorem d76_56 : decode cX11_mayBe 56 = .ok (.iload_n 2, 1) := by decide +kernel
theorem k76_56 {d : Nat} {x : Int32} {l0 l1 : Option PV} {st : List PV} {M : Mem} {Q : Option PV → Mem → Prop} : WP d 76 56 [l0, l1, some (vi x)] (st) M Q = WP d 76 57 [l0, l1, some (vi x)] (vi x :: st) M Q := w1 mC_76 d76_56 rfl rfl
theorem d76_57 : decode cX11_mayBe 57 = .ok (.iconst 0, 1) := by decide +kernel
theorem k76_57 {d : Nat} {l0 l1 l2 : Option PV} {st : List PV} {M : Mem} {Q : Option PV → Mem → Prop} : WP d 76 57 [l0, l1, l2] (st) M Q = WP d 76 58 [l0, l1, l2] (vi 0 :: st) M Q := w_iconst mC_76 d76_57 (by decide)
theorem d76_58 : decode cX11_mayBe 58 = .ok (.bipush 99, 2) := by decide +kernel
theorem k76_58 {d : Nat} {l0 l1 l2 : Option PV} {st : List PV} {M : Mem} {Q : Option PV → Mem → Prop} : WP d 76 58 [l0, l1, l2] (st) M Q = WP d 76 60 [l0, l1, l2] (vi 99 :: st) M Q := w_bipush mC_76 d76_58 (by decide)
theorem d76_60 : decode cX11_mayBe 60 = .ok (.invokestatic 79, 3) := by decide +kernel
theorem k76_60 {d : Nat} {l0 l1 l2 : Option PV} {st : List PV} {M : Mem} {Q : Option PV → Mem → Prop} {a0 a1 a2 : Int32} (hl : szL st ≤ 8) : WP (d + 1) 76 60 [l0, l1, l2] (vi a2 :: vi a1 :: vi a0 :: st) M Q = WP d 141 0 [some (vi a0), some (vi a1), some (vi a2)] [] M (fun v M' => WP (d + 1) 76 63 [l0, l1, l2] (psh v st) M' Q) := w_callS mC_76 d76_60 rfl rfl (Nat.le_of_ble_eq_true rfl) (by decide) rfl hl
theorem d76_63 : decode cX11_mayBe 63 = .ok (.ireturn, 1) := by decide +kernel
theorem k76_63 {d : Nat} {l0 l1 l2 : Option PV} {M : Mem} {Q : Option PV → Mem → Prop} {x : Int32} (hx : x = 0 ∨ x = 1) : WP d 76 63 [l0, l1, l2] ([vi x]) M Q = Q (some (vi x)) M := w_zret mC_76 d76_63 rfl hx
theorem d76_64 : decode cX11_mayBe 64 = .ok (.iload_n 2, 1) := by decide +kernel
theorem k76_64 {d : Nat} {x : Int32} {l0 l1 : Option PV} {st : List PV} {M : Mem} {Q : Option PV → Mem → Prop} : WP d 76 64 [l0, l1, some (vi x)] (st) M Q = WP d 76 65 [l0, l1, some (vi x)] (vi x :: st) M Q := w1 mC_76 d76_64 rfl rfl
theorem d76_65 : decode cX11_mayBe 65 = .ok (.iconst 0, 1) := by decide +kernel
theorem k76_65 {d : Nat} {l0 l1 l2 : Option PV} {st : List PV} {M : Mem} {Q : Option PV → Mem → Prop} : WP d 76 65 [l0, l1, l2] (st) M Q = WP d 76 66 [l0, l1, l2] (vi 0 :: st) M Q := w_iconst mC_76 d76_65 (by decide)
theorem d76_66 : decode cX11_mayBe 66 = .ok (.bipush 9, 2) := by decide +kernel
theorem k76_66 {d : Nat} {l0 l1 l2 : Option PV} {st : List PV} {M : Mem} {Q : Option PV → Mem → Prop} : WP d 76 66 [l0, l1, l2] (st) M Q = WP d 76 68 [l0, l1, l2] (vi 9 :: st) M Q := w_bipush mC_76 d76_66 (by decide)
theorem d76_68 : decode cX11_mayBe 68 = .ok (.invokestatic 79, 3) := by decide +kernel
theorem k76_68 {d : Nat} {l0 l1 l2 : Option PV} {st : List PV} {M : Mem} {Q : Option PV → Mem → Prop} {a0 a1 a2 : Int32} (hl : szL st ≤ 8) : WP (d + 1) 76 68 [l0, l1, l2] (vi a2 :: vi a1 :: vi a0 :: st) M Q = WP d 141 0 [some (vi a0), some (vi a1), some (vi a2)] [] M (fun v M' => WP (d + 1) 76 71 [l0, l1, l2] (psh v st) M' Q) := w_callS mC_76 d76_68 rfl rfl (Nat.le_of_ble_eq_true rfl) (by decide) rfl hl
theorem d76_71 : decode cX11_mayBe 71 = .ok (.ireturn, 1) := by decide +kernel
theorem k76_71 {d : Nat} {l0 l1 l2 : Option PV} {M : Mem} {Q : Option PV → Mem → Prop} {x : Int32} (hx : x = 0 ∨ x = 1) : WP d 76 71 [l0, l1, l2] ([vi x]) M Q = Q (some (vi x)) M := w_zret mC_76 d76_71 rfl hx
theorem d76_72 : decode cX11_mayBe 72 = .ok (.iload_n 2, 1) := by decide +kernel
theorem k76_72 {d : Nat} {x : Int32} {l0 l1 : Option PV} {st : List PV} {M : Mem} {Q : Option PV → Mem → Prop} : WP d 76 72 [l0, l1, some (vi x)] (st) M Q = WP d 76 73 [l0, l1, some (vi x)] (vi x :: st) M Q := w1 mC_76 d76_72 rfl rfl
theorem d76_73 : decode cX11_mayBe 73 = .ok (.iconst (-1), 1) := by decide +kernel
theorem k76_73 {d : Nat} {l0 l1 l2 : Option PV} {st : List PV} {M : Mem} {Q : Option PV → Mem → Prop} : WP d 76 73 [l0, l1, l2] (st) M Q = WP d 76 74 [l0, l1, l2] (vi (-1) :: st) M Q := w_iconst mC_76 d76_73 (by decide)
theorem d76_74 : decode cX11_mayBe 74 = .ok (.if_icmp .eq 14, 3) := by decide +kernel
theorem k76_74 {d : Nat} {l0 l1 l2 : Option PV} {st : List PV} {M : Mem} {Q : Option PV → Mem → Prop} {x y : Int32} : WP d 76 74 [l0, l1, l2] (vi y :: vi x :: st) M Q = (if x = y then WP d 76 88 [l0, l1, l2] (st) M Q else WP d 76 77 [l0, l1, l2] (st) M Q) := w_ic_eq mC_76 d76_74 (by decide)
theorem d76_77 : decode cX11_mayBe 77 = .ok (.aload_n 0, 1) := by decide +kernel
theorem k76_77 {d x : Nat} {l1 l2 : Option PV} {st : List PV} {M : Mem} {Q : Option PV → Mem → Prop} : WP d 76 77 [some (vr x), l1, l2] (st) M Q = WP d 76 78 [some (vr x), l1, l2] (vr x :: st) M Q := w1 mC_76 d76_77 rfl rfl
theorem d76_78 : decode cX11_mayBe 78 = .ok (.getfield 10, 3) := by decide +kernel
theorem k76_78 {d : Nat} {l0 l1 l2 : Option PV} {st : List PV} {M : Mem} {Q : Option PV → Mem → Prop} {r : Nat} (hk : mK M r = 11) : WP d 76 78 [l0, l1, l2] (vr r :: st) M Q = WP d 76 81 [l0, l1, l2] (vr (mR M r 0) :: st) M Q := w_getr mC_76 d76_78 fE_11_10 rfl (by rw [hk]; rfl)
theorem d76_81 : decode cX11_mayBe 81 = .ok (.iload_n 2, 1) := by decide +kernel
theorem k76_81 {d : Nat} {x : Int32} {l0 l1 : Option PV} {st : List PV} {M : Mem} {Q : Option PV → Mem → Prop} : WP d 76 81 [l0, l1, some (vi x)] (st) M Q = WP d 76 82 [l0, l1, some (vi x)] (vi x :: st) M Q := w1 mC_76 d76_81 rfl rfl
theorem d76_82 : decode cX11_mayBe 82 = .ok (.invokevirtual 117, 3) := by decide +kernel
theorem k76_82 {d : Nat} {l0 l1 l2 : Option PV} {st : List PV} {M : Mem} {Q : Option PV → Mem → Prop} {a0 : Int32} {r : Nat} (hl : szL st ≤ 8) (hk : mK M r = 4) : WP (d + 1) 76 82 [l0, l1, l2] (vi a0 :: vr r :: st) M Q = WP d 24 0 [some (vr r), some (vi a0)] [] M (fun v M' => WP (d + 1) 76 85 [l0, l1, l2] (psh v st) M' Q) := w_callV mC_76 d76_82 (ci := 4) rfl rfl rfl (Nat.le_of_ble_eq_true rfl) (by decide) rfl hl (Or.inl hk)
theorem d76_85 : decode cX11_mayBe 85 = .ok (.ifCond .eq 7, 3) := by decide +kernel
theorem k76_85 {d : Nat} {l0 l1 l2 : Option PV} {st : List PV} {M : Mem} {Q : Option PV → Mem → Prop} {x : Int32} : WP d 76 85 [l0, l1, l2] (vi x :: st) M Q = (if x = 0 then WP d 76 92 [l0, l1, l2] (st) M Q else WP d 76 88 [l0, l1, l2] (st) M Q) := w_if_eq mC_76 d76_85 (by decide)
theorem d76_88 : decode cX11_mayBe 88 = .ok (.iconst 1, 1) := by decide +kernel
theorem k76_88 {d : Nat} {l0 l1 l2 : Option PV} {st : List PV} {M : Mem} {Q : Option PV → Mem → Prop} : WP d 76 88 [l0, l1, l2] (st) M Q = WP d 76 89 [l0, l1, l2] (vi 1 :: st) M Q := w_iconst mC_76 d76_88 (by decide)
theorem d76_89 : decode cX11_mayBe 89 = .ok (.goto 4, 3) := by decide +kernel
theorem k76_89 {d : Nat} {l0 l1 l2 : Option PV} {st : List PV} {M : Mem} {Q : Option PV → Mem → Prop} : WP d 76 89 [l0, l1, l2] (st) M Q = WP d 76 93 [l0, l1, l2] (st) M Q := w_goto mC_76 d76_89 (by decide)
theorem d76_92 : decode cX11_mayBe 92 = .ok (.iconst 0, 1) := by decide +kernel
theorem k76_92 {d : Nat} {l0 l1 l2 : Option PV} {st : List PV} {M : Mem} {Q : Option PV → Mem → Prop} : WP d 76 92 [l0, l1, l2] (st) M Q = WP d 76 93 [l0, l1, l2] (vi 0 :: st) M Q := w_iconst mC_76 d76_92 (by decide)
theorem d76_93 : decode cX11_mayBe 93 = .ok (.ireturn, 1) := by decide +kernel
theorem k76_93 {d : Nat} {l0 l1 l2 : Option PV} {M : Mem} {Q : Option PV → Mem → Prop} {x : Int32} (hx : x = 0 ∨ x = 1) : WP d 76 93 [l0, l1, l2] ([vi x]) M Q = Q (some (vi x)) M := w_zret mC_76 d76_93 rfl hx
theorem d76_94 : decode cX11_mayBe 94 = .ok (.iload_n 2, 1) := by decide +kernel
theorem k76_94 {d : Nat} {x : Int32} {l0 l1 : Option PV} {st : List PV} {M : Mem} {Q : Option PV → Mem → Prop} : WP d 76 94 [l0, l1, some (vi x)] (st) M Q = WP d 76 95 [l0, l1, some (vi x)] (vi x :: st) M Q := w1 mC_76 d76_94 rfl rfl
theorem d76_95 : decode cX11_mayBe 95 = .ok (.iconst 0, 1) := by decide +kernel
theorem k76_95 {d : Nat} {l0 l1 l2 : Option PV} {st : List PV} {M : Mem} {Q : Option PV → Mem → Prop} : WP d 76 95 [l0, l1, l2] (st) M Q = WP d 76 96 [l0, l1, l2] (vi 0 :: st) M Q := w_iconst mC_76 d76_95 (by decide)
theorem d76_96 : decode cX11_mayBe 96 = .ok (.bipush 11, 2) := by decide +kernel
theorem k76_96 {d : Nat} {l0 l1 l2 : Option PV} {st : List PV} {M : Mem} {Q : Option PV → Mem → Prop} : WP d 76 96 [l0, l1, l2] (st) M Q = WP d 76 98 [l0, l1, l2] (vi 11 :: st) M Q := w_bipush mC_76 d76_96 (by decide)
theorem d76_98 : decode cX11_mayBe 98 = .ok (.invokestatic 79, 3) := by decide +kernel
theorem k76_98 {d : Nat} {l0 l1 l2 : Option PV} {st : List PV} {M : Mem} {Q : Option PV → Mem → Prop} {a0 a1 a2 : Int32} (hl : szL st ≤ 8) : WP (d + 1) 76 98 [l0, l1, l2] (vi a2 :: vi a1 :: vi a0 :: st) M Q = WP d 141 0 [some (vi a0), some (vi a1), some (vi a2)] [] M (fun v M' => WP (d + 1) 76 101 [l0, l1, l2] (psh v st) M' Q) := w_callS mC_76 d76_98 rfl rfl (Nat.le_of_ble_eq_true rfl) (by decide) rfl hl
theorem d76_101 : decode cX11_mayBe 101 = .ok (.ireturn, 1) := by decide +kernel
theorem k76_101 {d : Nat} {l0 l1 l2 : Option PV} {M : Mem} {Q : Option PV → Mem → Prop} {x : Int32} (hx : x = 0 ∨ x = 1) : WP d 76 101 [l0, l1, l2] ([vi x]) M Q = Q (some (vi x)) M := w_zret mC_76 d76_101 rfl hx
theorem d76_102 : decode cX11_mayBe 102 = .ok (.iconst 0, 1) := by decide +kernel
theorem k76_102 {d : Nat} {l0 l1 l2 : Option PV} {st : List PV} {M : Mem} {Q : Option PV → Mem → Prop} : WP d 76 102 [l0, l1, l2] (st) M Q = WP d 76 103 [l0, l1, l2] (vi 0 :: st) M Q := w_iconst mC_76 d76_102 (by decide)
theorem d76_103 : decode cX11_mayBe 103 = .ok (.ireturn, 1) := by decide +kernel
theorem k76_103 {d : Nat} {l0 l1 l2 : Option PV} {M : Mem} {Q : Option PV → Mem → Prop} {x : Int32} (hx : x = 0 ∨ x = 1) : WP d 76 103 [l0, l1, l2] ([vi x]) M Q = Q (some (vi x)) M := w_zret mC_76 d76_103 rfl hx
theorem d77_0 : decode cX11_of 0 = .ok (.aload_n 0, 1) := by decide +kernel
theorem k77_0 {d x : Nat} {l1 l2 : Option PV} {st : List PV} {M : Mem} {Q : Option PV → Mem → Prop} : WP d 77 0 [some (vr x), l1, l2] (st) M Q = WP d 77 1 [some (vr x), l1, l2] (vr x :: st) M Q := w1 mC_77 d77_0 rfl rfl
theorem d77_1 : decode cX11_of 1 = .ok (.getfield 10, 3) := by decide +kernel
theorem k77_1 {d : Nat} {l0 l1 l2 : Option PV} {st : List PV} {M : Mem} {Q : Option PV → Mem → Prop} {r : Nat} (hk : mK M r = 11) : WP d 77 1 [l0, l1, l2] (vr r :: st) M Q = WP d 77 4 [l0, l1, l2] (vr (mR M r 0) :: st) M Q := w_getr mC_77 d77_1 fE_11_10 rfl (by rw [hk]; rfl)
theorem d77_4 : decode cX11_of 4 = .ok (.iload_n 1, 1) := by decide +kernel
theorem k77_4 {d : Nat} {x : Int32} {l0 l2 : Option PV} {st : List PV} {M : Mem} {Q : Option PV → Mem → Prop} : WP d 77 4 [l0, some (vi x), l2] (st) M Q = WP d 77 5 [l0, some (vi x), l2] (vi x :: st) M Q := w1 mC_77 d77_4 rfl rfl
theorem d77_5 : decode cX11_of 5 = .ok (.iload_n 2, 1) := by decide +kernel
theorem k77_5 {d : Nat} {x : Int32} {l0 l1 : Option PV} {st : List PV} {M : Mem} {Q : Option PV → Mem → Prop} : WP d 77 5 [l0, l1, some (vi x)] (st) M Q = WP d 77 6 [l0, l1, some (vi x)] (vi x :: st) M Q := w1 mC_77 d77_5 rfl rfl
theorem d77_6 : decode cX11_of 6 = .ok (.invokevirtual 101, 3) := by decide +kernel
theorem k77_6 {d : Nat} {l0 l1 l2 : Option PV} {st : List PV} {M : Mem} {Q : Option PV → Mem → Prop} {a0 a1 : Int32} {r : Nat} (hl : szL st ≤ 8) (hk : mK M r = 4) : WP (d + 1) 77 6 [l0, l1, l2] (vi a1 :: vi a0 :: vr r :: st) M Q = WP d 28 0 [some (vr r), some (vi a0), some (vi a1)] [] M (fun v M' => WP (d + 1) 77 9 [l0, l1, l2] (psh v st) M' Q) := w_callV mC_77 d77_6 (ci := 4) rfl rfl rfl (Nat.le_of_ble_eq_true rfl) (by decide) rfl hl (Or.inl hk)
theorem d77_9 : decode cX11_of 9 = .ok (.ifCond .eq 15, 3) := by decide +kernel
theorem k77_9 {d : Nat} {l0 l1 l2 : Option PV} {st : List PV} {M : Mem} {Q : Option PV → Mem → Prop} {x : Int32} : WP d 77 9 [l0, l1, l2] (vi x :: st) M Q = (if x = 0 then WP d 77 24 [l0, l1, l2] (st) M Q else WP d 77 12 [l0, l1, l2] (st) M Q) := w_if_eq mC_77 d77_9 (by decide)
theorem d77_12 : decode cX11_of 12 = .ok (.aload_n 0, 1) := by decide +kernel
theorem k77_12 {d x : Nat} {l1 l2 : Option PV} {st : List PV} {M : Mem} {Q : Option PV → Mem → Prop} : WP d 77 12 [some (vr x), l1, l2] (st) M Q = WP d 77 13 [some (vr x), l1, l2] (vr x :: st) M Q := w1 mC_77 d77_12 rfl rfl
theorem d77_13 : decode cX11_of 13 = .ok (.getfield 10, 3) := by decide +kernel
theorem k77_13 {d : Nat} {l0 l1 l2 : Option PV} {st : List PV} {M : Mem} {Q : Option PV → Mem → Prop} {r : Nat} (hk : mK M r = 11) : WP d 77 13 [l0, l1, l2] (vr r :: st) M Q = WP d 77 16 [l0, l1, l2] (vr (mR M r 0) :: st) M Q := w_getr mC_77 d77_13 fE_11_10 rfl (by rw [hk]; rfl)
theorem d77_16 : decode cX11_of 16 = .ok (.iload_n 1, 1) := by decide +kernel
theorem k77_16 {d : Nat} {x : Int32} {l0 l2 : Option PV} {st : List PV} {M : Mem} {Q : Option PV → Mem → Prop} : WP d 77 16 [l0, some (vi x), l2] (st) M Q = WP d 77 17 [l0, some (vi x), l2] (vi x :: st) M Q := w1 mC_77 d77_16 rfl rfl
theorem d77_17 : decode cX11_of 17 = .ok (.iload_n 2, 1) := by decide +kernel
theorem k77_17 {d : Nat} {x : Int32} {l0 l1 : Option PV} {st : List PV} {M : Mem} {Q : Option PV → Mem → Prop} : WP d 77 17 [l0, l1, some (vi x)] (st) M Q = WP d 77 18 [l0, l1, some (vi x)] (vi x :: st) M Q := w1 mC_77 d77_17 rfl rfl
theorem d77_18 : decode cX11_of 18 = .ok (.invokevirtual 105, 3) := by decide +kernel
theorem k77_18 {d : Nat} {l0 l1 l2 : Option PV} {st : List PV} {M : Mem} {Q : Option PV → Mem → Prop} {a0 a1 : Int32} {r : Nat} (hl : szL st ≤ 8) (hk : mK M r = 4) : WP (d + 1) 77 18 [l0, l1, l2] (vi a1 :: vi a0 :: vr r :: st) M Q = WP d 29 0 [some (vr r), some (vi a0), some (vi a1)] [] M (fun v M' => WP (d + 1) 77 21 [l0, l1, l2] (psh v st) M' Q) := w_callV mC_77 d77_18 (ci := 4) rfl rfl rfl (Nat.le_of_ble_eq_true rfl) (by decide) rfl hl (Or.inl hk)
theorem d77_21 : decode cX11_of 21 = .ok (.goto 5, 3) := by decide +kernel
theorem k77_21 {d : Nat} {l0 l1 l2 : Option PV} {st : List PV} {M : Mem} {Q : Option PV → Mem → Prop} : WP d 77 21 [l0, l1, l2] (st) M Q = WP d 77 26 [l0, l1, l2] (st) M Q := w_goto mC_77 d77_21 (by decide)
theorem d77_24 : decode cX11_of 24 = .ok (.ldc 104, 2) := by decide +kernel
theorem k77_24 {d : Nat} {l0 l1 l2 : Option PV} {st : List PV} {M : Mem} {Q : Option PV → Mem → Prop} : WP d 77 24 [l0, l1, l2] (st) M Q = WP d 77 26 [l0, l1, l2] (vi (-2000000000) :: st) M Q := w_ldc mC_77 d77_24 rfl
theorem d77_26 : decode cX11_of 26 = .ok (.ireturn, 1) := by decide +kernel
theorem k77_26 {d : Nat} {l0 l1 l2 : Option PV} {M : Mem} {Q : Option PV → Mem → Prop} {x : Int32} : WP d 77 26 [l0, l1, l2] ([vi x]) M Q = Q (some (vi x)) M := w_iret mC_77 d77_26 rfl
theorem d78_0 : decode cX11_feed 0 = .ok (.iload_n 1, 1) := by decide +kernel
theorem k78_0 {d : Nat} {x : Int32} {l0 : Option PV} {st : List PV} {M : Mem} {Q : Option PV → Mem → Prop} : WP d 78 0 [l0, some (vi x)] (st) M Q = WP d 78 1 [l0, some (vi x)] (vi x :: st) M Q := w1 mC_78 d78_0 rfl rfl
theorem d78_1 : decode cX11_feed 1 = .ok (.iconst 0, 1) := by decide +kernel
theorem k78_1 {d : Nat} {l0 l1 : Option PV} {st : List PV} {M : Mem} {Q : Option PV → Mem → Prop} : WP d 78 1 [l0, l1] (st) M Q = WP d 78 2 [l0, l1] (vi 0 :: st) M Q := w_iconst mC_78 d78_1 (by decide)
theorem d78_2 : decode cX11_feed 2 = .ok (.sipush 255, 3) := by decide +kernel
theorem k78_2 {d : Nat} {l0 l1 : Option PV} {st : List PV} {M : Mem} {Q : Option PV → Mem → Prop} : WP d 78 2 [l0, l1] (st) M Q = WP d 78 5 [l0, l1] (vi 255 :: st) M Q := w_sipush mC_78 d78_2 (by decide)
theorem d78_5 : decode cX11_feed 5 = .ok (.invokestatic 79, 3) := by decide +kernel
theorem k78_5 {d : Nat} {l0 l1 : Option PV} {st : List PV} {M : Mem} {Q : Option PV → Mem → Prop} {a0 a1 a2 : Int32} (hl : szL st ≤ 8) : WP (d + 1) 78 5 [l0, l1] (vi a2 :: vi a1 :: vi a0 :: st) M Q = WP d 141 0 [some (vi a0), some (vi a1), some (vi a2)] [] M (fun v M' => WP (d + 1) 78 8 [l0, l1] (psh v st) M' Q) := w_callS mC_78 d78_5 rfl rfl (Nat.le_of_ble_eq_true rfl) (by decide) rfl hl
theorem d78_8 : decode cX11_feed 8 = .ok (.ifCond .ne 5, 3) := by decide +kernel
theorem k78_8 {d : Nat} {l0 l1 : Option PV} {st : List PV} {M : Mem} {Q : Option PV → Mem → Prop} {x : Int32} : WP d 78 8 [l0, l1] (vi x :: st) M Q = (if x = 0 then WP d 78 11 [l0, l1] (st) M Q else WP d 78 13 [l0, l1] (st) M Q) := w_if_ne mC_78 d78_8 (by decide)
theorem d78_11 : decode cX11_feed 11 = .ok (.iconst (-1), 1) := by decide +kernel
theorem k78_11 {d : Nat} {l0 l1 : Option PV} {st : List PV} {M : Mem} {Q : Option PV → Mem → Prop} : WP d 78 11 [l0, l1] (st) M Q = WP d 78 12 [l0, l1] (vi (-1) :: st) M Q := w_iconst mC_78 d78_11 (by decide)
theorem d78_12 : decode cX11_feed 12 = .ok (.ireturn, 1) := by decide +kernel
theorem k78_12 {d : Nat} {l0 l1 : Option PV} {M : Mem} {Q : Option PV → Mem → Prop} {x : Int32} : WP d 78 12 [l0, l1] ([vi x]) M Q = Q (some (vi x)) M := w_iret mC_78 d78_12 rfl
theorem d78_13 : decode cX11_feed 13 = .ok (.aload_n 0, 1) := by decide +kernel
theorem k78_13 {d x : Nat} {l1 : Option PV} {st : List PV} {M : Mem} {Q : Option PV → Mem → Prop} : WP d 78 13 [some (vr x), l1] (st) M Q = WP d 78 14 [some (vr x), l1] (vr x :: st) M Q := w1 mC_78 d78_13 rfl rfl
theorem d78_14 : decode cX11_feed 14 = .ok (.getfield 120, 3) := by decide +kernel
theorem k78_14 {d : Nat} {l0 l1 : Option PV} {st : List PV} {M : Mem} {Q : Option PV → Mem → Prop} {r : Nat} (hk : mK M r = 11) : WP d 78 14 [l0, l1] (vr r :: st) M Q = WP d 78 17 [l0, l1] (vi (mI M r 7) :: st) M Q := w_get mC_78 d78_14 fE_11_120 rfl (by rw [hk]; rfl)
theorem d78_17 : decode cX11_feed 17 = .ok (.bipush 120, 2) := by decide +kernel
theorem k78_17 {d : Nat} {l0 l1 : Option PV} {st : List PV} {M : Mem} {Q : Option PV → Mem → Prop} : WP d 78 17 [l0, l1] (st) M Q = WP d 78 19 [l0, l1] (vi 120 :: st) M Q := w_bipush mC_78 d78_17 (by decide)
theorem d78_19 : decode cX11_feed 19 = .ok (.if_icmp .lt 6, 3) := by decide +kernel
theorem k78_19 {d : Nat} {l0 l1 : Option PV} {st : List PV} {M : Mem} {Q : Option PV → Mem → Prop} {x y : Int32} : WP d 78 19 [l0, l1] (vi y :: vi x :: st) M Q = (if x < y then WP d 78 25 [l0, l1] (st) M Q else WP d 78 22 [l0, l1] (st) M Q) := w_ic_lt mC_78 d78_19 (by decide)
theorem d78_22 : decode cX11_feed 22 = .ok (.bipush (-3), 2) := by decide +kernel
theorem k78_22 {d : Nat} {l0 l1 : Option PV} {st : List PV} {M : Mem} {Q : Option PV → Mem → Prop} : WP d 78 22 [l0, l1] (st) M Q = WP d 78 24 [l0, l1] (vi (-3) :: st) M Q := w_bipush mC_78 d78_22 (by decide)
theorem d78_24 : decode cX11_feed 24 = .ok (.ireturn, 1) := by decide +kernel
theorem k78_24 {d : Nat} {l0 l1 : Option PV} {M : Mem} {Q : Option PV → Mem → Prop} {x : Int32} : WP d 78 24 [l0, l1] ([vi x]) M Q = Q (some (vi x)) M := w_iret mC_78 d78_24 rfl
theorem d78_25 : decode cX11_feed 25 = .ok (.aload_n 0, 1) := by decide +kernel
theorem k78_25 {d x : Nat} {l1 : Option PV} {st : List PV} {M : Mem} {Q : Option PV → Mem → Prop} : WP d 78 25 [some (vr x), l1] (st) M Q = WP d 78 26 [some (vr x), l1] (vr x :: st) M Q := w1 mC_78 d78_25 rfl rfl
theorem d78_26 : decode cX11_feed 26 = .ok (.getfield 32, 3) := by decide +kernel
theorem k78_26 {d : Nat} {l0 l1 : Option PV} {st : List PV} {M : Mem} {Q : Option PV → Mem → Prop} {r : Nat} (hk : mK M r = 11) : WP d 78 26 [l0, l1] (vr r :: st) M Q = WP d 78 29 [l0, l1] (vr (mR M r 6) :: st) M Q := w_getr mC_78 d78_26 fE_11_32 rfl (by rw [hk]; rfl)
theorem d78_29 : decode cX11_feed 29 = .ok (.aload_n 0, 1) := by decide +kernel
theorem k78_29 {d x : Nat} {l1 : Option PV} {st : List PV} {M : Mem} {Q : Option PV → Mem → Prop} : WP d 78 29 [some (vr x), l1] (st) M Q = WP d 78 30 [some (vr x), l1] (vr x :: st) M Q := w1 mC_78 d78_29 rfl rfl
theorem d78_30 : decode cX11_feed 30 = .ok (.getfield 120, 3) := by decide +kernel
theorem k78_30 {d : Nat} {l0 l1 : Option PV} {st : List PV} {M : Mem} {Q : Option PV → Mem → Prop} {r : Nat} (hk : mK M r = 11) : WP d 78 30 [l0, l1] (vr r :: st) M Q = WP d 78 33 [l0, l1] (vi (mI M r 7) :: st) M Q := w_get mC_78 d78_30 fE_11_120 rfl (by rw [hk]; rfl)
theorem d78_33 : decode cX11_feed 33 = .ok (.iload_n 1, 1) := by decide +kernel
theorem k78_33 {d : Nat} {x : Int32} {l0 : Option PV} {st : List PV} {M : Mem} {Q : Option PV → Mem → Prop} : WP d 78 33 [l0, some (vi x)] (st) M Q = WP d 78 34 [l0, some (vi x)] (vi x :: st) M Q := w1 mC_78 d78_33 rfl rfl
theorem d78_34 : decode cX11_feed 34 = .ok (.iastore, 1) := by decide +kernel
theorem k78_34 {d : Nat} {l0 l1 : Option PV} {st : List PV} {M : Mem} {Q : Option PV → Mem → Prop} {r : Nat} {j x : Int32} (hk : mK M r = 13) (hj : inb j (mN M r)) (h1 : r ≠ 1) : WP d 78 34 [l0, l1] (vi x :: vi j :: vr r :: st) M Q = WP d 78 35 [l0, l1] (st) (sI M r (ix j) x) Q := w_iast mC_78 d78_34 hk hj h1
theorem d78_35 : decode cX11_feed 35 = .ok (.aload_n 0, 1) := by decide +kernel
theorem k78_35 {d x : Nat} {l1 : Option PV} {st : List PV} {M : Mem} {Q : Option PV → Mem → Prop} : WP d 78 35 [some (vr x), l1] (st) M Q = WP d 78 36 [some (vr x), l1] (vr x :: st) M Q := w1 mC_78 d78_35 rfl rfl
theorem d78_36 : decode cX11_feed 36 = .ok (.dup, 1) := by decide +kernel
theorem k78_36 {d : Nat} {l0 l1 : Option PV} {st : List PV} {M : Mem} {Q : Option PV → Mem → Prop} {x : Nat} : WP d 78 36 [l0, l1] (vr x :: st) M Q = WP d 78 37 [l0, l1] (vr x :: vr x :: st) M Q := w1 mC_78 d78_36 rfl rfl
theorem k78_36i {d : Nat} {l0 l1 : Option PV} {st : List PV} {M : Mem} {Q : Option PV → Mem → Prop} {x : Int32} : WP d 78 36 [l0, l1] (vi x :: st) M Q = WP d 78 37 [l0, l1] (vi x :: vi x :: st) M Q := w1 mC_78 d78_36 rfl rfl
theorem d78_37 : decode cX11_feed 37 = .ok (.getfield 120, 3) := by decide +kernel
theorem k78_37 {d : Nat} {l0 l1 : Option PV} {st : List PV} {M : Mem} {Q : Option PV → Mem → Prop} {r : Nat} (hk : mK M r = 11) : WP d 78 37 [l0, l1] (vr r :: st) M Q = WP d 78 40 [l0, l1] (vi (mI M r 7) :: st) M Q := w_get mC_78 d78_37 fE_11_120 rfl (by rw [hk]; rfl)
theorem d78_40 : decode cX11_feed 40 = .ok (.iconst 1, 1) := by decide +kernel
theorem k78_40 {d : Nat} {l0 l1 : Option PV} {st : List PV} {M : Mem} {Q : Option PV → Mem → Prop} : WP d 78 40 [l0, l1] (st) M Q = WP d 78 41 [l0, l1] (vi 1 :: st) M Q := w_iconst mC_78 d78_40 (by decide)
theorem d78_41 : decode cX11_feed 41 = .ok (.iadd, 1) := by decide +kernel
theorem k78_41 {d : Nat} {l0 l1 : Option PV} {st : List PV} {M : Mem} {Q : Option PV → Mem → Prop} {x y : Int32} : WP d 78 41 [l0, l1] (vi y :: vi x :: st) M Q = WP d 78 42 [l0, l1] (vi (x + y) :: st) M Q := w1 mC_78 d78_41 rfl rfl
theorem d78_42 : decode cX11_feed 42 = .ok (.putfield 120, 3) := by decide +kernel
theorem k78_42 {d : Nat} {l0 l1 : Option PV} {st : List PV} {M : Mem} {Q : Option PV → Mem → Prop} {r : Nat} {x : Int32} (hk : mK M r = 11) : WP d 78 42 [l0, l1] (vi x :: vr r :: st) M Q = WP d 78 45 [l0, l1] (st) (sI M r 7 x) Q := w_put mC_78 d78_42 fE_11_120 (by decide +kernel) (by rw [hk]; rfl)
theorem d78_45 : decode cX11_feed 45 = .ok (.aload_n 0, 1) := by decide +kernel
theorem k78_45 {d x : Nat} {l1 : Option PV} {st : List PV} {M : Mem} {Q : Option PV → Mem → Prop} : WP d 78 45 [some (vr x), l1] (st) M Q = WP d 78 46 [some (vr x), l1] (vr x :: st) M Q := w1 mC_78 d78_45 rfl rfl
theorem d78_46 : decode cX11_feed 46 = .ok (.getfield 120, 3) := by decide +kernel
theorem k78_46 {d : Nat} {l0 l1 : Option PV} {st : List PV} {M : Mem} {Q : Option PV → Mem → Prop} {r : Nat} (hk : mK M r = 11) : WP d 78 46 [l0, l1] (vr r :: st) M Q = WP d 78 49 [l0, l1] (vi (mI M r 7) :: st) M Q := w_get mC_78 d78_46 fE_11_120 rfl (by rw [hk]; rfl)
theorem d78_49 : decode cX11_feed 49 = .ok (.ireturn, 1) := by decide +kernel
theorem k78_49 {d : Nat} {l0 l1 : Option PV} {M : Mem} {Q : Option PV → Mem → Prop} {x : Int32} : WP d 78 49 [l0, l1] ([vi x]) M Q = Q (some (vi x)) M := w_iret mC_78 d78_49 rfl
theorem d79_0 : decode cX11_law 0 = .ok (.aload_n 0, 1) := by decide +kernel
theorem k79_0 {d x : Nat} {l1 l2 : Option PV} {st : List PV} {M : Mem} {Q : Option PV → Mem → Prop} : WP d 79 0 [some (vr x), l1, l2] (st) M Q = WP d 79 1 [some (vr x), l1, l2] (vr x :: st) M Q := w1 mC_79 d79_0 rfl rfl
theorem d79_1 : decode cX11_law 1 = .ok (.getfield 29, 3) := by decide +kernel
theorem k79_1 {d : Nat} {l0 l1 l2 : Option PV} {st : List PV} {M : Mem} {Q : Option PV → Mem → Prop} {r : Nat} (hk : mK M r = 11) : WP d 79 1 [l0, l1, l2] (vr r :: st) M Q = WP d 79 4 [l0, l1, l2] (vr (mR M r 5) :: st) M Q := w_getr mC_79 d79_1 fE_11_29 rfl (by rw [hk]; rfl)
theorem d79_4 : decode cX11_law 4 = .ok (.aload_n 0, 1) := by decide +kernel
theorem k79_4 {d x : Nat} {l1 l2 : Option PV} {st : List PV} {M : Mem} {Q : Option PV → Mem → Prop} : WP d 79 4 [some (vr x), l1, l2] (st) M Q = WP d 79 5 [some (vr x), l1, l2] (vr x :: st) M Q := w1 mC_79 d79_4 rfl rfl
theorem d79_5 : decode cX11_law 5 = .ok (.getfield 32, 3) := by decide +kernel
theorem k79_5 {d : Nat} {l0 l1 l2 : Option PV} {st : List PV} {M : Mem} {Q : Option PV → Mem → Prop} {r : Nat} (hk : mK M r = 11) : WP d 79 5 [l0, l1, l2] (vr r :: st) M Q = WP d 79 8 [l0, l1, l2] (vr (mR M r 6) :: st) M Q := w_getr mC_79 d79_5 fE_11_32 rfl (by rw [hk]; rfl)
theorem d79_8 : decode cX11_law 8 = .ok (.aload_n 0, 1) := by decide +kernel
theorem k79_8 {d x : Nat} {l1 l2 : Option PV} {st : List PV} {M : Mem} {Q : Option PV → Mem → Prop} : WP d 79 8 [some (vr x), l1, l2] (st) M Q = WP d 79 9 [some (vr x), l1, l2] (vr x :: st) M Q := w1 mC_79 d79_8 rfl rfl
theorem d79_9 : decode cX11_law 9 = .ok (.getfield 120, 3) := by decide +kernel
theorem k79_9 {d : Nat} {l0 l1 l2 : Option PV} {st : List PV} {M : Mem} {Q : Option PV → Mem → Prop} {r : Nat} (hk : mK M r = 11) : WP d 79 9 [l0, l1, l2] (vr r :: st) M Q = WP d 79 12 [l0, l1, l2] (vi (mI M r 7) :: st) M Q := w_get mC_79 d79_9 fE_11_120 rfl (by rw [hk]; rfl)
theorem d79_12 : decode cX11_law 12 = .ok (.invokevirtual 124, 3) := by decide +kernel
theorem k79_12 {d : Nat} {l0 l1 l2 : Option PV} {st : List PV} {M : Mem} {Q : Option PV → Mem → Prop} {a1 : Int32} {a0 : Nat} {r : Nat} (hl : szL st ≤ 8) (hk : mK M r = 3) : WP (d + 1) 79 12 [l0, l1, l2] (vi a1 :: vr a0 :: vr r :: st) M Q = WP d 9 0 [some (vr r), some (vr a0), some (vi a1), none, none] [] M (fun v M' => WP (d + 1) 79 15 [l0, l1, l2] (psh v st) M' Q) := w_callV mC_79 d79_12 (ci := 3) rfl rfl rfl (Nat.le_of_ble_eq_true rfl) (by decide) rfl hl (Or.inl hk)
theorem d79_15 : decode cX11_law 15 = .ok (.istore_n 1, 1) := by decide +kernel
theorem k79_15 {d : Nat} {l0 l1 l2 : Option PV} {st : List PV} {M : Mem} {Q : Option PV → Mem → Prop} {x : Int32} : WP d 79 15 [l0, l1, l2] (vi x :: st) M Q = WP d 79 16 [l0, some (vi x), l2] (st) M Q := w1 mC_79 d79_15 rfl rfl
theorem d79_16 : decode cX11_law 16 = .ok (.aload_n 0, 1) := by decide +kernel
theorem k79_16 {d x : Nat} {l1 l2 : Option PV} {st : List PV} {M : Mem} {Q : Option PV → Mem → Prop} : WP d 79 16 [some (vr x), l1, l2] (st) M Q = WP d 79 17 [some (vr x), l1, l2] (vr x :: st) M Q := w1 mC_79 d79_16 rfl rfl
theorem d79_17 : decode cX11_law 17 = .ok (.iconst 0, 1) := by decide +kernel
theorem k79_17 {d : Nat} {l0 l1 l2 : Option PV} {st : List PV} {M : Mem} {Q : Option PV → Mem → Prop} : WP d 79 17 [l0, l1, l2] (st) M Q = WP d 79 18 [l0, l1, l2] (vi 0 :: st) M Q := w_iconst mC_79 d79_17 (by decide)
theorem d79_18 : decode cX11_law 18 = .ok (.putfield 120, 3) := by decide +kernel
theorem k79_18 {d : Nat} {l0 l1 l2 : Option PV} {st : List PV} {M : Mem} {Q : Option PV → Mem → Prop} {r : Nat} {x : Int32} (hk : mK M r = 11) : WP d 79 18 [l0, l1, l2] (vi x :: vr r :: st) M Q = WP d 79 21 [l0, l1, l2] (st) (sI M r 7 x) Q := w_put mC_79 d79_18 fE_11_120 (by decide +kernel) (by rw [hk]; rfl)
theorem d79_21 : decode cX11_law 21 = .ok (.iload_n 1, 1) := by decide +kernel
theorem k79_21 {d : Nat} {x : Int32} {l0 l2 : Option PV} {st : List PV} {M : Mem} {Q : Option PV → Mem → Prop} : WP d 79 21 [l0, some (vi x), l2] (st) M Q = WP d 79 22 [l0, some (vi x), l2] (vi x :: st) M Q := w1 mC_79 d79_21 rfl rfl
theorem d79_22 : decode cX11_law 22 = .ok (.ifCond .lt 8, 3) := by decide +kernel
theorem k79_22 {d : Nat} {l0 l1 l2 : Option PV} {st : List PV} {M : Mem} {Q : Option PV → Mem → Prop} {x : Int32} : WP d 79 22 [l0, l1, l2] (vi x :: st) M Q = (if x < 0 then WP d 79 30 [l0, l1, l2] (st) M Q else WP d 79 25 [l0, l1, l2] (st) M Q) := w_if_lt mC_79 d79_22 (by decide)
theorem d79_25 : decode cX11_law 25 = .ok (.bipush (-100), 2) := by decide +kernel
theorem k79_25 {d : Nat} {l0 l1 l2 : Option PV} {st : List PV} {M : Mem} {Q : Option PV → Mem → Prop} : WP d 79 25 [l0, l1, l2] (st) M Q = WP d 79 27 [l0, l1, l2] (vi (-100) :: st) M Q := w_bipush mC_79 d79_25 (by decide)
theorem d79_27 : decode cX11_law 27 = .ok (.iload_n 1, 1) := by decide +kernel
theorem k79_27 {d : Nat} {x : Int32} {l0 l2 : Option PV} {st : List PV} {M : Mem} {Q : Option PV → Mem → Prop} : WP d 79 27 [l0, some (vi x), l2] (st) M Q = WP d 79 28 [l0, some (vi x), l2] (vi x :: st) M Q := w1 mC_79 d79_27 rfl rfl
theorem d79_28 : decode cX11_law 28 = .ok (.isub, 1) := by decide +kernel
theorem k79_28 {d : Nat} {l0 l1 l2 : Option PV} {st : List PV} {M : Mem} {Q : Option PV → Mem → Prop} {x y : Int32} : WP d 79 28 [l0, l1, l2] (vi y :: vi x :: st) M Q = WP d 79 29 [l0, l1, l2] (vi (x - y) :: st) M Q := w1 mC_79 d79_28 rfl rfl
theorem d79_29 : decode cX11_law 29 = .ok (.ireturn, 1) := by decide +kernel
theorem k79_29 {d : Nat} {l0 l1 l2 : Option PV} {M : Mem} {Q : Option PV → Mem → Prop} {x : Int32} : WP d 79 29 [l0, l1, l2] ([vi x]) M Q = Q (some (vi x)) M := w_iret mC_79 d79_29 rfl
theorem d79_30 : decode cX11_law 30 = .ok (.aload_n 0, 1) := by decide +kernel
theorem k79_30 {d x : Nat} {l1 l2 : Option PV} {st : List PV} {M : Mem} {Q : Option PV → Mem → Prop} : WP d 79 30 [some (vr x), l1, l2] (st) M Q = WP d 79 31 [some (vr x), l1, l2] (vr x :: st) M Q := w1 mC_79 d79_30 rfl rfl
theorem d79_31 : decode cX11_law 31 = .ok (.getfield 25, 3) := by decide +kernel
theorem k79_31 {d : Nat} {l0 l1 l2 : Option PV} {st : List PV} {M : Mem} {Q : Option PV → Mem → Prop} {r : Nat} (hk : mK M r = 11) : WP d 79 31 [l0, l1, l2] (vr r :: st) M Q = WP d 79 34 [l0, l1, l2] (vr (mR M r 4) :: st) M Q := w_getr mC_79 d79_31 fE_11_25 rfl (by rw [hk]; rfl)
theorem d79_34 : decode cX11_law 34 = .ok (.astore_n 2, 1) := by decide +kernel
theorem k79_34 {d : Nat} {l0 l1 l2 : Option PV} {st : List PV} {M : Mem} {Q : Option PV → Mem → Prop} {x : Nat} : WP d 79 34 [l0, l1, l2] (vr x :: st) M Q = WP d 79 35 [l0, l1, some (vr x)] (st) M Q := w1 mC_79 d79_34 rfl rfl
theorem d79_35 : decode cX11_law 35 = .ok (.aload_n 0, 1) := by decide +kernel
theorem k79_35 {d x : Nat} {l1 l2 : Option PV} {st : List PV} {M : Mem} {Q : Option PV → Mem → Prop} : WP d 79 35 [some (vr x), l1, l2] (st) M Q = WP d 79 36 [some (vr x), l1, l2] (vr x :: st) M Q := w1 mC_79 d79_35 rfl rfl
theorem d79_36 : decode cX11_law 36 = .ok (.aload_n 0, 1) := by decide +kernel
theorem k79_36 {d x : Nat} {l1 l2 : Option PV} {st : List PV} {M : Mem} {Q : Option PV → Mem → Prop} : WP d 79 36 [some (vr x), l1, l2] (st) M Q = WP d 79 37 [some (vr x), l1, l2] (vr x :: st) M Q := w1 mC_79 d79_36 rfl rfl
theorem d79_37 : decode cX11_law 37 = .ok (.getfield 29, 3) := by decide +kernel
theorem k79_37 {d : Nat} {l0 l1 l2 : Option PV} {st : List PV} {M : Mem} {Q : Option PV → Mem → Prop} {r : Nat} (hk : mK M r = 11) : WP d 79 37 [l0, l1, l2] (vr r :: st) M Q = WP d 79 40 [l0, l1, l2] (vr (mR M r 5) :: st) M Q := w_getr mC_79 d79_37 fE_11_29 rfl (by rw [hk]; rfl)
theorem d79_40 : decode cX11_law 40 = .ok (.putfield 25, 3) := by decide +kernel
theorem k79_40 {d : Nat} {l0 l1 l2 : Option PV} {st : List PV} {M : Mem} {Q : Option PV → Mem → Prop} {r q : Nat} (hk : mK M r = 11) : WP d 79 40 [l0, l1, l2] (vr q :: vr r :: st) M Q = WP d 79 43 [l0, l1, l2] (st) (sR M r 4 q) Q := w_putr mC_79 d79_40 fE_11_25 (by decide +kernel) (by rw [hk]; rfl)
theorem d79_43 : decode cX11_law 43 = .ok (.aload_n 0, 1) := by decide +kernel
theorem k79_43 {d x : Nat} {l1 l2 : Option PV} {st : List PV} {M : Mem} {Q : Option PV → Mem → Prop} : WP d 79 43 [some (vr x), l1, l2] (st) M Q = WP d 79 44 [some (vr x), l1, l2] (vr x :: st) M Q := w1 mC_79 d79_43 rfl rfl
theorem d79_44 : decode cX11_law 44 = .ok (.aload_n 2, 1) := by decide +kernel
theorem k79_44 {d x : Nat} {l0 l1 : Option PV} {st : List PV} {M : Mem} {Q : Option PV → Mem → Prop} : WP d 79 44 [l0, l1, some (vr x)] (st) M Q = WP d 79 45 [l0, l1, some (vr x)] (vr x :: st) M Q := w1 mC_79 d79_44 rfl rfl
theorem d79_45 : decode cX11_law 45 = .ok (.putfield 29, 3) := by decide +kernel
theorem k79_45 {d : Nat} {l0 l1 l2 : Option PV} {st : List PV} {M : Mem} {Q : Option PV → Mem → Prop} {r q : Nat} (hk : mK M r = 11) : WP d 79 45 [l0, l1, l2] (vr q :: vr r :: st) M Q = WP d 79 48 [l0, l1, l2] (st) (sR M r 5 q) Q := w_putr mC_79 d79_45 fE_11_29 (by decide +kernel) (by rw [hk]; rfl)
theorem d79_48 : decode cX11_law 48 = .ok (.iconst 1, 1) := by decide +kernel
theorem k79_48 {d : Nat} {l0 l1 l2 : Option PV} {st : List PV} {M : Mem} {Q : Option PV → Mem → Prop} : WP d 79 48 [l0, l1, l2] (st) M Q = WP d 79 49 [l0, l1, l2] (vi 1 :: st) M Q := w_iconst mC_79 d79_48 (by decide)
theorem d79_49 : decode cX11_law 49 = .ok (.ireturn, 1) := by decide +kernel
theorem k79_49 {d : Nat} {l0 l1 l2 : Option PV} {M : Mem} {Q : Option PV → Mem → Prop} {x : Int32} : WP d 79 49 [l0, l1, l2] ([vi x]) M Q = Q (some (vi x)) M := w_iret mC_79 d79_49 rfl
theorem d80_0 : decode cX11_loses 0 = .ok (.aload_n 0, 1) := by decide +kernel
theorem k80_0 {d x : Nat} {l1 : Option PV} {st : List PV} {M : Mem} {Q : Option PV → Mem → Prop} : WP d 80 0 [some (vr x), l1] (st) M Q = WP d 80 1 [some (vr x), l1] (vr x :: st) M Q := w1 mC_80 d80_0 rfl rfl
theorem d80_1 : decode cX11_loses 1 = .ok (.getfield 10, 3) := by decide +kernel
theorem k80_1 {d : Nat} {l0 l1 : Option PV} {st : List PV} {M : Mem} {Q : Option PV → Mem → Prop} {r : Nat} (hk : mK M r = 11) : WP d 80 1 [l0, l1] (vr r :: st) M Q = WP d 80 4 [l0, l1] (vr (mR M r 0) :: st) M Q := w_getr mC_80 d80_1 fE_11_10 rfl (by rw [hk]; rfl)
theorem d80_4 : decode cX11_loses 4 = .ok (.iload_n 1, 1) := by decide +kernel
theorem k80_4 {d : Nat} {x : Int32} {l0 : Option PV} {st : List PV} {M : Mem} {Q : Option PV → Mem → Prop} : WP d 80 4 [l0, some (vi x)] (st) M Q = WP d 80 5 [l0, some (vi x)] (vi x :: st) M Q := w1 mC_80 d80_4 rfl rfl
theorem d80_5 : decode cX11_loses 5 = .ok (.invokevirtual 128, 3) := by decide +kernel
theorem k80_5 {d : Nat} {l0 l1 : Option PV} {st : List PV} {M : Mem} {Q : Option PV → Mem → Prop} {a0 : Int32} {r : Nat} (hl : szL st ≤ 8) (hk : mK M r = 4) : WP (d + 1) 80 5 [l0, l1] (vi a0 :: vr r :: st) M Q = WP d 25 0 [some (vr r), some (vi a0)] [] M (fun v M' => WP (d + 1) 80 8 [l0, l1] (psh v st) M' Q) := w_callV mC_80 d80_5 (ci := 4) rfl rfl rfl (Nat.le_of_ble_eq_true rfl) (by decide) rfl hl (Or.inl hk)
theorem d80_8 : decode cX11_loses 8 = .ok (.ifCond .eq 18, 3) := by decide +kernel
theorem k80_8 {d : Nat} {l0 l1 : Option PV} {st : List PV} {M : Mem} {Q : Option PV → Mem → Prop} {x : Int32} : WP d 80 8 [l0, l1] (vi x :: st) M Q = (if x = 0 then WP d 80 26 [l0, l1] (st) M Q else WP d 80 11 [l0, l1] (st) M Q) := w_if_eq mC_80 d80_8 (by decide)
theorem d80_11 : decode cX11_loses 11 = .ok (.aload_n 0, 1) := by decide +kernel
theorem k80_11 {d x : Nat} {l1 : Option PV} {st : List PV} {M : Mem} {Q : Option PV → Mem → Prop} : WP d 80 11 [some (vr x), l1] (st) M Q = WP d 80 12 [some (vr x), l1] (vr x :: st) M Q := w1 mC_80 d80_11 rfl rfl
theorem d80_12 : decode cX11_loses 12 = .ok (.getfield 10, 3) := by decide +kernel
theorem k80_12 {d : Nat} {l0 l1 : Option PV} {st : List PV} {M : Mem} {Q : Option PV → Mem → Prop} {r : Nat} (hk : mK M r = 11) : WP d 80 12 [l0, l1] (vr r :: st) M Q = WP d 80 15 [l0, l1] (vr (mR M r 0) :: st) M Q := w_getr mC_80 d80_12 fE_11_10 rfl (by rw [hk]; rfl)
theorem d80_15 : decode cX11_loses 15 = .ok (.iload_n 1, 1) := by decide +kernel
theorem k80_15 {d : Nat} {x : Int32} {l0 : Option PV} {st : List PV} {M : Mem} {Q : Option PV → Mem → Prop} : WP d 80 15 [l0, some (vi x)] (st) M Q = WP d 80 16 [l0, some (vi x)] (vi x :: st) M Q := w1 mC_80 d80_15 rfl rfl
theorem d80_16 : decode cX11_loses 16 = .ok (.aload_n 0, 1) := by decide +kernel
theorem k80_16 {d x : Nat} {l1 : Option PV} {st : List PV} {M : Mem} {Q : Option PV → Mem → Prop} : WP d 80 16 [some (vr x), l1] (st) M Q = WP d 80 17 [some (vr x), l1] (vr x :: st) M Q := w1 mC_80 d80_16 rfl rfl
theorem d80_17 : decode cX11_loses 17 = .ok (.getfield 25, 3) := by decide +kernel
theorem k80_17 {d : Nat} {l0 l1 : Option PV} {st : List PV} {M : Mem} {Q : Option PV → Mem → Prop} {r : Nat} (hk : mK M r = 11) : WP d 80 17 [l0, l1] (vr r :: st) M Q = WP d 80 20 [l0, l1] (vr (mR M r 4) :: st) M Q := w_getr mC_80 d80_17 fE_11_25 rfl (by rw [hk]; rfl)
theorem d80_20 : decode cX11_loses 20 = .ok (.invokevirtual 131, 3) := by decide +kernel
theorem k80_20 {d : Nat} {l0 l1 : Option PV} {st : List PV} {M : Mem} {Q : Option PV → Mem → Prop} {a0 : Int32} {a1 : Nat} {r : Nat} (hl : szL st ≤ 8) (hk : mK M r = 4) : WP (d + 1) 80 20 [l0, l1] (vr a1 :: vi a0 :: vr r :: st) M Q = WP d 40 0 [some (vr r), some (vi a0), some (vr a1), none, none, none] [] M (fun v M' => WP (d + 1) 80 23 [l0, l1] (psh v st) M' Q) := w_callV mC_80 d80_20 (ci := 4) rfl rfl rfl (Nat.le_of_ble_eq_true rfl) (by decide) rfl hl (Or.inl hk)
theorem d80_23 : decode cX11_loses 23 = .ok (.goto 4, 3) := by decide +kernel
theorem k80_23 {d : Nat} {l0 l1 : Option PV} {st : List PV} {M : Mem} {Q : Option PV → Mem → Prop} : WP d 80 23 [l0, l1] (st) M Q = WP d 80 27 [l0, l1] (st) M Q := w_goto mC_80 d80_23 (by decide)
theorem d80_26 : decode cX11_loses 26 = .ok (.iconst (-1), 1) := by decide +kernel
theorem k80_26 {d : Nat} {l0 l1 : Option PV} {st : List PV} {M : Mem} {Q : Option PV → Mem → Prop} : WP d 80 26 [l0, l1] (st) M Q = WP d 80 27 [l0, l1] (vi (-1) :: st) M Q := w_iconst mC_80 d80_26 (by decide)
theorem d80_27 : decode cX11_loses 27 = .ok (.ireturn, 1) := by decide +kernel
theorem k80_27 {d : Nat} {l0 l1 : Option PV} {M : Mem} {Q : Option PV → Mem → Prop} {x : Int32} : WP d 80 27 [l0, l1] ([vi x]) M Q = Q (some (vi x)) M := w_iret mC_80 d80_27 rfl
theorem d81_0 : decode cX11_later 0 = .ok (.iload_n 3, 1) := by decide +kernel
theorem k81_0 {d : Nat} {x : Int32} {l0 l1 l2 l4 : Option PV} {st : List PV} {M : Mem} {Q : Option PV → Mem → Prop} : WP d 81 0 [l0, l1, l2, some (vi x), l4] (st) M Q = WP d 81 1 [l0, l1, l2, some (vi x), l4] (vi x :: st) M Q := w1 mC_81 d81_0 rfl rfl
theorem d81_1 : decode cX11_later 1 = .ok (.iconst 3, 1) := by decide +kernel
theorem k81_1 {d : Nat} {l0 l1 l2 l3 l4 : Option PV} {st : List PV} {M : Mem} {Q : Option PV → Mem → Prop} : WP d 81 1 [l0, l1, l2, l3, l4] (st) M Q = WP d 81 2 [l0, l1, l2, l3, l4] (vi 3 :: st) M Q := w_iconst mC_81 d81_1 (by decide)
theorem d81_2 : decode cX11_later 2 = .ok (.if_icmp .ne 14, 3) := by decide +kernel
theorem k81_2 {d : Nat} {l0 l1 l2 l3 l4 : Option PV} {st : List PV} {M : Mem} {Q : Option PV → Mem → Prop} {x y : Int32} : WP d 81 2 [l0, l1, l2, l3, l4] (vi y :: vi x :: st) M Q = (if x = y then WP d 81 5 [l0, l1, l2, l3, l4] (st) M Q else WP d 81 16 [l0, l1, l2, l3, l4] (st) M Q) := w_ic_ne mC_81 d81_2 (by decide)
theorem d81_5 : decode cX11_later 5 = .ok (.aload_n 0, 1) := by decide +kernel
theorem k81_5 {d x : Nat} {l1 l2 l3 l4 : Option PV} {st : List PV} {M : Mem} {Q : Option PV → Mem → Prop} : WP d 81 5 [some (vr x), l1, l2, l3, l4] (st) M Q = WP d 81 6 [some (vr x), l1, l2, l3, l4] (vr x :: st) M Q := w1 mC_81 d81_5 rfl rfl
theorem d81_6 : decode cX11_later 6 = .ok (.getfield 10, 3) := by decide +kernel
theorem k81_6 {d : Nat} {l0 l1 l2 l3 l4 : Option PV} {st : List PV} {M : Mem} {Q : Option PV → Mem → Prop} {r : Nat} (hk : mK M r = 11) : WP d 81 6 [l0, l1, l2, l3, l4] (vr r :: st) M Q = WP d 81 9 [l0, l1, l2, l3, l4] (vr (mR M r 0) :: st) M Q := w_getr mC_81 d81_6 fE_11_10 rfl (by rw [hk]; rfl)
theorem d81_9 : decode cX11_later 9 = .ok (.iload_n 2, 1) := by decide +kernel
theorem k81_9 {d : Nat} {x : Int32} {l0 l1 l3 l4 : Option PV} {st : List PV} {M : Mem} {Q : Option PV → Mem → Prop} : WP d 81 9 [l0, l1, some (vi x), l3, l4] (st) M Q = WP d 81 10 [l0, l1, some (vi x), l3, l4] (vi x :: st) M Q := w1 mC_81 d81_9 rfl rfl
theorem d81_10 : decode cX11_later 10 = .ok (.invokevirtual 117, 3) := by decide +kernel
theorem k81_10 {d : Nat} {l0 l1 l2 l3 l4 : Option PV} {st : List PV} {M : Mem} {Q : Option PV → Mem → Prop} {a0 : Int32} {r : Nat} (hl : szL st ≤ 8) (hk : mK M r = 4) : WP (d + 1) 81 10 [l0, l1, l2, l3, l4] (vi a0 :: vr r :: st) M Q = WP d 24 0 [some (vr r), some (vi a0)] [] M (fun v M' => WP (d + 1) 81 13 [l0, l1, l2, l3, l4] (psh v st) M' Q) := w_callV mC_81 d81_10 (ci := 4) rfl rfl rfl (Nat.le_of_ble_eq_true rfl) (by decide) rfl hl (Or.inl hk)
theorem d81_13 : decode cX11_later 13 = .ok (.goto 11, 3) := by decide +kernel
theorem k81_13 {d : Nat} {l0 l1 l2 l3 l4 : Option PV} {st : List PV} {M : Mem} {Q : Option PV → Mem → Prop} : WP d 81 13 [l0, l1, l2, l3, l4] (st) M Q = WP d 81 24 [l0, l1, l2, l3, l4] (st) M Q := w_goto mC_81 d81_13 (by decide)
theorem d81_16 : decode cX11_later 16 = .ok (.aload_n 0, 1) := by decide +kernel
theorem k81_16 {d x : Nat} {l1 l2 l3 l4 : Option PV} {st : List PV} {M : Mem} {Q : Option PV → Mem → Prop} : WP d 81 16 [some (vr x), l1, l2, l3, l4] (st) M Q = WP d 81 17 [some (vr x), l1, l2, l3, l4] (vr x :: st) M Q := w1 mC_81 d81_16 rfl rfl
theorem d81_17 : decode cX11_later 17 = .ok (.getfield 10, 3) := by decide +kernel
theorem k81_17 {d : Nat} {l0 l1 l2 l3 l4 : Option PV} {st : List PV} {M : Mem} {Q : Option PV → Mem → Prop} {r : Nat} (hk : mK M r = 11) : WP d 81 17 [l0, l1, l2, l3, l4] (vr r :: st) M Q = WP d 81 20 [l0, l1, l2, l3, l4] (vr (mR M r 0) :: st) M Q := w_getr mC_81 d81_17 fE_11_10 rfl (by rw [hk]; rfl)
theorem d81_20 : decode cX11_later 20 = .ok (.iload_n 2, 1) := by decide +kernel
theorem k81_20 {d : Nat} {x : Int32} {l0 l1 l3 l4 : Option PV} {st : List PV} {M : Mem} {Q : Option PV → Mem → Prop} : WP d 81 20 [l0, l1, some (vi x), l3, l4] (st) M Q = WP d 81 21 [l0, l1, some (vi x), l3, l4] (vi x :: st) M Q := w1 mC_81 d81_20 rfl rfl
theorem d81_21 : decode cX11_later 21 = .ok (.invokevirtual 128, 3) := by decide +kernel
theorem k81_21 {d : Nat} {l0 l1 l2 l3 l4 : Option PV} {st : List PV} {M : Mem} {Q : Option PV → Mem → Prop} {a0 : Int32} {r : Nat} (hl : szL st ≤ 8) (hk : mK M r = 4) : WP (d + 1) 81 21 [l0, l1, l2, l3, l4] (vi a0 :: vr r :: st) M Q = WP d 25 0 [some (vr r), some (vi a0)] [] M (fun v M' => WP (d + 1) 81 24 [l0, l1, l2, l3, l4] (psh v st) M' Q) := w_callV mC_81 d81_21 (ci := 4) rfl rfl rfl (Nat.le_of_ble_eq_true rfl) (by decide) rfl hl (Or.inl hk)
theorem d81_24 : decode cX11_later 24 = .ok (.istore 4, 2) := by decide +kernel
theorem k81_24 {d : Nat} {l0 l1 l2 l3 l4 : Option PV} {st : List PV} {M : Mem} {Q : Option PV → Mem → Prop} {x : Int32} : WP d 81 24 [l0, l1, l2, l3, l4] (vi x :: st) M Q = WP d 81 26 [l0, l1, l2, l3, some (vi x)] (st) M Q := w1 mC_81 d81_24 rfl rfl
theorem d81_26 : decode cX11_later 26 = .ok (.iload_n 1, 1) := by decide +kernel
theorem k81_26 {d : Nat} {x : Int32} {l0 l2 l3 l4 : Option PV} {st : List PV} {M : Mem} {Q : Option PV → Mem → Prop} : WP d 81 26 [l0, some (vi x), l2, l3, l4] (st) M Q = WP d 81 27 [l0, some (vi x), l2, l3, l4] (vi x :: st) M Q := w1 mC_81 d81_26 rfl rfl
theorem d81_27 : decode cX11_later 27 = .ok (.iconst 0, 1) := by decide +kernel
theorem k81_27 {d : Nat} {l0 l1 l2 l3 l4 : Option PV} {st : List PV} {M : Mem} {Q : Option PV → Mem → Prop} : WP d 81 27 [l0, l1, l2, l3, l4] (st) M Q = WP d 81 28 [l0, l1, l2, l3, l4] (vi 0 :: st) M Q := w_iconst mC_81 d81_27 (by decide)
theorem d81_28 : decode cX11_later 28 = .ok (.bipush 40, 2) := by decide +kernel
theorem k81_28 {d : Nat} {l0 l1 l2 l3 l4 : Option PV} {st : List PV} {M : Mem} {Q : Option PV → Mem → Prop} : WP d 81 28 [l0, l1, l2, l3, l4] (st) M Q = WP d 81 30 [l0, l1, l2, l3, l4] (vi 40 :: st) M Q := w_bipush mC_81 d81_28 (by decide)
theorem d81_30 : decode cX11_later 30 = .ok (.invokestatic 79, 3) := by decide +kernel
theorem k81_30 {d : Nat} {l0 l1 l2 l3 l4 : Option PV} {st : List PV} {M : Mem} {Q : Option PV → Mem → Prop} {a0 a1 a2 : Int32} (hl : szL st ≤ 8) : WP (d + 1) 81 30 [l0, l1, l2, l3, l4] (vi a2 :: vi a1 :: vi a0 :: st) M Q = WP d 141 0 [some (vi a0), some (vi a1), some (vi a2)] [] M (fun v M' => WP (d + 1) 81 33 [l0, l1, l2, l3, l4] (psh v st) M' Q) := w_callS mC_81 d81_30 rfl rfl (Nat.le_of_ble_eq_true rfl) (by decide) rfl hl
theorem d81_33 : decode cX11_later 33 = .ok (.ifCond .eq 17, 3) := by decide +kernel
theorem k81_33 {d : Nat} {l0 l1 l2 l3 l4 : Option PV} {st : List PV} {M : Mem} {Q : Option PV → Mem → Prop} {x : Int32} : WP d 81 33 [l0, l1, l2, l3, l4] (vi x :: st) M Q = (if x = 0 then WP d 81 50 [l0, l1, l2, l3, l4] (st) M Q else WP d 81 36 [l0, l1, l2, l3, l4] (st) M Q) := w_if_eq mC_81 d81_33 (by decide)
theorem d81_36 : decode cX11_later 36 = .ok (.iload_n 3, 1) := by decide +kernel
theorem k81_36 {d : Nat} {x : Int32} {l0 l1 l2 l4 : Option PV} {st : List PV} {M : Mem} {Q : Option PV → Mem → Prop} : WP d 81 36 [l0, l1, l2, some (vi x), l4] (st) M Q = WP d 81 37 [l0, l1, l2, some (vi x), l4] (vi x :: st) M Q := w1 mC_81 d81_36 rfl rfl
theorem d81_37 : decode cX11_later 37 = .ok (.iconst 0, 1) := by decide +kernel
theorem k81_37 {d : Nat} {l0 l1 l2 l3 l4 : Option PV} {st : List PV} {M : Mem} {Q : Option PV → Mem → Prop} : WP d 81 37 [l0, l1, l2, l3, l4] (st) M Q = WP d 81 38 [l0, l1, l2, l3, l4] (vi 0 :: st) M Q := w_iconst mC_81 d81_37 (by decide)
theorem d81_38 : decode cX11_later 38 = .ok (.iconst 3, 1) := by decide +kernel
theorem k81_38 {d : Nat} {l0 l1 l2 l3 l4 : Option PV} {st : List PV} {M : Mem} {Q : Option PV → Mem → Prop} : WP d 81 38 [l0, l1, l2, l3, l4] (st) M Q = WP d 81 39 [l0, l1, l2, l3, l4] (vi 3 :: st) M Q := w_iconst mC_81 d81_38 (by decide)
theorem d81_39 : decode cX11_later 39 = .ok (.invokestatic 79, 3) := by decide +kernel
theorem k81_39 {d : Nat} {l0 l1 l2 l3 l4 : Option PV} {st : List PV} {M : Mem} {Q : Option PV → Mem → Prop} {a0 a1 a2 : Int32} (hl : szL st ≤ 8) : WP (d + 1) 81 39 [l0, l1, l2, l3, l4] (vi a2 :: vi a1 :: vi a0 :: st) M Q = WP d 141 0 [some (vi a0), some (vi a1), some (vi a2)] [] M (fun v M' => WP (d + 1) 81 42 [l0, l1, l2, l3, l4] (psh v st) M' Q) := w_callS mC_81 d81_39 rfl rfl (Nat.le_of_ble_eq_true rfl) (by decide) rfl hl
theorem d81_42 : decode cX11_later 42 = .ok (.ifCond .eq 8, 3) := by decide +kernel
theorem k81_42 {d : Nat} {l0 l1 l2 l3 l4 : Option PV} {st : List PV} {M : Mem} {Q : Option PV → Mem → Prop} {x : Int32} : WP d 81 42 [l0, l1, l2, l3, l4] (vi x :: st) M Q = (if x = 0 then WP d 81 50 [l0, l1, l2, l3, l4] (st) M Q else WP d 81 45 [l0, l1, l2, l3, l4] (st) M Q) := w_if_eq mC_81 d81_42 (by decide)
theorem d81_45 : decode cX11_later 45 = .ok (.iload 4, 2) := by decide +kernel
theorem k81_45 {d : Nat} {x : Int32} {l0 l1 l2 l3 : Option PV} {st : List PV} {M : Mem} {Q : Option PV → Mem → Prop} : WP d 81 45 [l0, l1, l2, l3, some (vi x)] (st) M Q = WP d 81 47 [l0, l1, l2, l3, some (vi x)] (vi x :: st) M Q := w1 mC_81 d81_45 rfl rfl
theorem d81_47 : decode cX11_later 47 = .ok (.ifCond .ne 6, 3) := by decide +kernel
theorem k81_47 {d : Nat} {l0 l1 l2 l3 l4 : Option PV} {st : List PV} {M : Mem} {Q : Option PV → Mem → Prop} {x : Int32} : WP d 81 47 [l0, l1, l2, l3, l4] (vi x :: st) M Q = (if x = 0 then WP d 81 50 [l0, l1, l2, l3, l4] (st) M Q else WP d 81 53 [l0, l1, l2, l3, l4] (st) M Q) := w_if_ne mC_81 d81_47 (by decide)
theorem d81_50 : decode cX11_later 50 = .ok (.ldc 104, 2) := by decide +kernel
theorem k81_50 {d : Nat} {l0 l1 l2 l3 l4 : Option PV} {st : List PV} {M : Mem} {Q : Option PV → Mem → Prop} : WP d 81 50 [l0, l1, l2, l3, l4] (st) M Q = WP d 81 52 [l0, l1, l2, l3, l4] (vi (-2000000000) :: st) M Q := w_ldc mC_81 d81_50 rfl
theorem d81_52 : decode cX11_later 52 = .ok (.ireturn, 1) := by decide +kernel
theorem k81_52 {d : Nat} {l0 l1 l2 l3 l4 : Option PV} {M : Mem} {Q : Option PV → Mem → Prop} {x : Int32} : WP d 81 52 [l0, l1, l2, l3, l4] ([vi x]) M Q = Q (some (vi x)) M := w_iret mC_81 d81_52 rfl
theorem d81_53 : decode cX11_later 53 = .ok (.aload_n 0, 1) := by decide +kernel
theorem k81_53 {d x : Nat} {l1 l2 l3 l4 : Option PV} {st : List PV} {M : Mem} {Q : Option PV → Mem → Prop} : WP d 81 53 [some (vr x), l1, l2, l3, l4] (st) M Q = WP d 81 54 [some (vr x), l1, l2, l3, l4] (vr x :: st) M Q := w1 mC_81 d81_53 rfl rfl
theorem d81_54 : decode cX11_later 54 = .ok (.iload_n 1, 1) := by decide +kernel
theorem k81_54 {d : Nat} {x : Int32} {l0 l2 l3 l4 : Option PV} {st : List PV} {M : Mem} {Q : Option PV → Mem → Prop} : WP d 81 54 [l0, some (vi x), l2, l3, l4] (st) M Q = WP d 81 55 [l0, some (vi x), l2, l3, l4] (vi x :: st) M Q := w1 mC_81 d81_54 rfl rfl
theorem d81_55 : decode cX11_later 55 = .ok (.invokevirtual 135, 3) := by decide +kernel
theorem k81_55 {d : Nat} {l0 l1 l2 l3 l4 : Option PV} {st : List PV} {M : Mem} {Q : Option PV → Mem → Prop} {a0 : Int32} {r : Nat} (hl : szL st ≤ 8) (hk : mK M r = 11) : WP (d + 1) 81 55 [l0, l1, l2, l3, l4] (vi a0 :: vr r :: st) M Q = WP d 82 0 [some (vr r), some (vi a0), none] [] M (fun v M' => WP (d + 1) 81 58 [l0, l1, l2, l3, l4] (psh v st) M' Q) := w_callV mC_81 d81_55 (ci := 11) rfl rfl rfl (Nat.le_of_ble_eq_true rfl) (by decide) rfl hl (Or.inl hk)
theorem d81_58 : decode cX11_later 58 = .ok (.iload_n 3, 1) := by decide +kernel
theorem k81_58 {d : Nat} {x : Int32} {l0 l1 l2 l4 : Option PV} {st : List PV} {M : Mem} {Q : Option PV → Mem → Prop} : WP d 81 58 [l0, l1, l2, some (vi x), l4] (st) M Q = WP d 81 59 [l0, l1, l2, some (vi x), l4] (vi x :: st) M Q := w1 mC_81 d81_58 rfl rfl
theorem d81_59 : decode cX11_later 59 = .ok (.tableswitch 55 0 2 #[25, 35, 45], 25) := by decide +kernel
theorem k81_59c0 {d : Nat} {l0 l1 l2 l3 l4 : Option PV} {st : List PV} {M : Mem} {Q : Option PV → Mem → Prop} : WP d 81 59 [l0, l1, l2, l3, l4] (vi 0 :: st) M Q = WP d 81 84 [l0, l1, l2, l3, l4] (st) M Q := w_sw mC_81 d81_59 (by decide +kernel)
theorem k81_59c1 {d : Nat} {l0 l1 l2 l3 l4 : Option PV} {st : List PV} {M : Mem} {Q : Option PV → Mem → Prop} : WP d 81 59 [l0, l1, l2, l3, l4] (vi 1 :: st) M Q = WP d 81 94 [l0, l1, l2, l3, l4] (st) M Q := w_sw mC_81 d81_59 (by decide +kernel)
theorem k81_59c2 {d : Nat} {l0 l1 l2 l3 l4 : Option PV} {st : List PV} {M : Mem} {Q : Option PV → Mem → Prop} : WP d 81 59 [l0, l1, l2, l3, l4] (vi 2 :: st) M Q = WP d 81 104 [l0, l1, l2, l3, l4] (st) M Q := w_sw mC_81 d81_59 (by decide +kernel)
theorem k81_59 {d : Nat} {l0 l1 l2 l3 l4 : Option PV} {st : List PV} {M : Mem} {Q : Option PV → Mem → Prop} {x : Int32} (h : x.toInt < 0 ∨ 2 < x.toInt) : WP d 81 59 [l0, l1, l2, l3, l4] (vi x :: st) M Q = WP d 81 114 [l0, l1, l2, l3, l4] (st) M Q := w_swd mC_81 d81_59 (by decide) h
theorem d81_84 : decode cX11_later 84 = .ok (.aload_n 0, 1) := by decide +kernel
theorem k81_84 {d x : Nat} {l1 l2 l3 l4 : Option PV} {st : List PV} {M : Mem} {Q : Option PV → Mem → Prop} : WP d 81 84 [some (vr x), l1, l2, l3, l4] (st) M Q = WP d 81 85 [some (vr x), l1, l2, l3, l4] (vr x :: st) M Q := w1 mC_81 d81_84 rfl rfl
theorem d81_85 : decode cX11_later 85 = .ok (.getfield 16, 3) := by decide +kernel
theorem k81_85 {d : Nat} {l0 l1 l2 l3 l4 : Option PV} {st : List PV} {M : Mem} {Q : Option PV → Mem → Prop} {r : Nat} (hk : mK M r = 11) : WP d 81 85 [l0, l1, l2, l3, l4] (vr r :: st) M Q = WP d 81 88 [l0, l1, l2, l3, l4] (vr (mR M r 1) :: st) M Q := w_getr mC_81 d81_85 fE_11_16 rfl (by rw [hk]; rfl)
theorem d81_88 : decode cX11_later 88 = .ok (.getfield 139, 3) := by decide +kernel
theorem k81_88 {d : Nat} {l0 l1 l2 l3 l4 : Option PV} {st : List PV} {M : Mem} {Q : Option PV → Mem → Prop} {r : Nat} (hk : mK M r = 4) : WP d 81 88 [l0, l1, l2, l3, l4] (vr r :: st) M Q = WP d 81 91 [l0, l1, l2, l3, l4] (vr (mR M r 5) :: st) M Q := w_getr mC_81 d81_88 fE_11_139 rfl (by rw [hk]; rfl)
theorem d81_91 : decode cX11_later 91 = .ok (.iload_n 2, 1) := by decide +kernel
theorem k81_91 {d : Nat} {x : Int32} {l0 l1 l3 l4 : Option PV} {st : List PV} {M : Mem} {Q : Option PV → Mem → Prop} : WP d 81 91 [l0, l1, some (vi x), l3, l4] (st) M Q = WP d 81 92 [l0, l1, some (vi x), l3, l4] (vi x :: st) M Q := w1 mC_81 d81_91 rfl rfl
theorem d81_92 : decode cX11_later 92 = .ok (.iaload, 1) := by decide +kernel
theorem k81_92 {d : Nat} {l0 l1 l2 l3 l4 : Option PV} {st : List PV} {M : Mem} {Q : Option PV → Mem → Prop} {r : Nat} {j : Int32} (hk : mK M r = 13) (hj : inb j (mN M r)) (_h1 : r ≠ 1) : WP d 81 92 [l0, l1, l2, l3, l4] (vi j :: vr r :: st) M Q = WP d 81 93 [l0, l1, l2, l3, l4] (vi (mI M r (ix j)) :: st) M Q := w_iald mC_81 d81_92 hk hj
theorem d81_93 : decode cX11_later 93 = .ok (.ireturn, 1) := by decide +kernel
theorem k81_93 {d : Nat} {l0 l1 l2 l3 l4 : Option PV} {M : Mem} {Q : Option PV → Mem → Prop} {x : Int32} : WP d 81 93 [l0, l1, l2, l3, l4] ([vi x]) M Q = Q (some (vi x)) M := w_iret mC_81 d81_93 rfl
theorem d81_94 : decode cX11_later 94 = .ok (.aload_n 0, 1) := by decide +kernel
theorem k81_94 {d x : Nat} {l1 l2 l3 l4 : Option PV} {st : List PV} {M : Mem} {Q : Option PV → Mem → Prop} : WP d 81 94 [some (vr x), l1, l2, l3, l4] (st) M Q = WP d 81 95 [some (vr x), l1, l2, l3, l4] (vr x :: st) M Q := w1 mC_81 d81_94 rfl rfl
theorem d81_95 : decode cX11_later 95 = .ok (.getfield 16, 3) := by decide +kernel
theorem k81_95 {d : Nat} {l0 l1 l2 l3 l4 : Option PV} {st : List PV} {M : Mem} {Q : Option PV → Mem → Prop} {r : Nat} (hk : mK M r = 11) : WP d 81 95 [l0, l1, l2, l3, l4] (vr r :: st) M Q = WP d 81 98 [l0, l1, l2, l3, l4] (vr (mR M r 1) :: st) M Q := w_getr mC_81 d81_95 fE_11_16 rfl (by rw [hk]; rfl)
theorem d81_98 : decode cX11_later 98 = .ok (.getfield 142, 3) := by decide +kernel
theorem k81_98 {d : Nat} {l0 l1 l2 l3 l4 : Option PV} {st : List PV} {M : Mem} {Q : Option PV → Mem → Prop} {r : Nat} (hk : mK M r = 4) : WP d 81 98 [l0, l1, l2, l3, l4] (vr r :: st) M Q = WP d 81 101 [l0, l1, l2, l3, l4] (vr (mR M r 2) :: st) M Q := w_getr mC_81 d81_98 fE_11_142 rfl (by rw [hk]; rfl)
theorem d81_101 : decode cX11_later 101 = .ok (.iload_n 2, 1) := by decide +kernel
theorem k81_101 {d : Nat} {x : Int32} {l0 l1 l3 l4 : Option PV} {st : List PV} {M : Mem} {Q : Option PV → Mem → Prop} : WP d 81 101 [l0, l1, some (vi x), l3, l4] (st) M Q = WP d 81 102 [l0, l1, some (vi x), l3, l4] (vi x :: st) M Q := w1 mC_81 d81_101 rfl rfl
theorem d81_102 : decode cX11_later 102 = .ok (.iaload, 1) := by decide +kernel
theorem k81_102 {d : Nat} {l0 l1 l2 l3 l4 : Option PV} {st : List PV} {M : Mem} {Q : Option PV → Mem → Prop} {r : Nat} {j : Int32} (hk : mK M r = 13) (hj : inb j (mN M r)) (_h1 : r ≠ 1) : WP d 81 102 [l0, l1, l2, l3, l4] (vi j :: vr r :: st) M Q = WP d 81 103 [l0, l1, l2, l3, l4] (vi (mI M r (ix j)) :: st) M Q := w_iald mC_81 d81_102 hk hj
theorem d81_103 : decode cX11_later 103 = .ok (.ireturn, 1) := by decide +kernel
theorem k81_103 {d : Nat} {l0 l1 l2 l3 l4 : Option PV} {M : Mem} {Q : Option PV → Mem → Prop} {x : Int32} : WP d 81 103 [l0, l1, l2, l3, l4] ([vi x]) M Q = Q (some (vi x)) M := w_iret mC_81 d81_103 rfl
theorem d81_104 : decode cX11_later 104 = .ok (.aload_n 0, 1) := by decide +kernel
theorem k81_104 {d x : Nat} {l1 l2 l3 l4 : Option PV} {st : List PV} {M : Mem} {Q : Option PV → Mem → Prop} : WP d 81 104 [some (vr x), l1, l2, l3, l4] (st) M Q = WP d 81 105 [some (vr x), l1, l2, l3, l4] (vr x :: st) M Q := w1 mC_81 d81_104 rfl rfl
theorem d81_105 : decode cX11_later 105 = .ok (.getfield 16, 3) := by decide +kernel
theorem k81_105 {d : Nat} {l0 l1 l2 l3 l4 : Option PV} {st : List PV} {M : Mem} {Q : Option PV → Mem → Prop} {r : Nat} (hk : mK M r = 11) : WP d 81 105 [l0, l1, l2, l3, l4] (vr r :: st) M Q = WP d 81 108 [l0, l1, l2, l3, l4] (vr (mR M r 1) :: st) M Q := w_getr mC_81 d81_105 fE_11_16 rfl (by rw [hk]; rfl)
theorem d81_108 : decode cX11_later 108 = .ok (.getfield 145, 3) := by decide +kernel
theorem k81_108 {d : Nat} {l0 l1 l2 l3 l4 : Option PV} {st : List PV} {M : Mem} {Q : Option PV → Mem → Prop} {r : Nat} (hk : mK M r = 4) : WP d 81 108 [l0, l1, l2, l3, l4] (vr r :: st) M Q = WP d 81 111 [l0, l1, l2, l3, l4] (vr (mR M r 4) :: st) M Q := w_getr mC_81 d81_108 fE_11_145 rfl (by rw [hk]; rfl)
theorem d81_111 : decode cX11_later 111 = .ok (.iload_n 2, 1) := by decide +kernel
theorem k81_111 {d : Nat} {x : Int32} {l0 l1 l3 l4 : Option PV} {st : List PV} {M : Mem} {Q : Option PV → Mem → Prop} : WP d 81 111 [l0, l1, some (vi x), l3, l4] (st) M Q = WP d 81 112 [l0, l1, some (vi x), l3, l4] (vi x :: st) M Q := w1 mC_81 d81_111 rfl rfl
theorem d81_112 : decode cX11_later 112 = .ok (.iaload, 1) := by decide +kernel
theorem k81_112 {d : Nat} {l0 l1 l2 l3 l4 : Option PV} {st : List PV} {M : Mem} {Q : Option PV → Mem → Prop} {r : Nat} {j : Int32} (hk : mK M r = 13) (hj : inb j (mN M r)) (_h1 : r ≠ 1) : WP d 81 112 [l0, l1, l2, l3, l4] (vi j :: vr r :: st) M Q = WP d 81 113 [l0, l1, l2, l3, l4] (vi (mI M r (ix j)) :: st) M Q := w_iald mC_81 d81_112 hk hj
theorem d81_113 : decode cX11_later 113 = .ok (.ireturn, 1) := by decide +kernel
theorem k81_113 {d : Nat} {l0 l1 l2 l3 l4 : Option PV} {M : Mem} {Q : Option PV → Mem → Prop} {x : Int32} : WP d 81 113 [l0, l1, l2, l3, l4] ([vi x]) M Q = Q (some (vi x)) M := w_iret mC_81 d81_113 rfl
theorem d81_114 : decode cX11_later 114 = .ok (.aload_n 0, 1) := by decide +kernel
theorem k81_114 {d x : Nat} {l1 l2 l3 l4 : Option PV} {st : List PV} {M : Mem} {Q : Option PV → Mem → Prop} : WP d 81 114 [some (vr x), l1, l2, l3, l4] (st) M Q = WP d 81 115 [some (vr x), l1, l2, l3, l4] (vr x :: st) M Q := w1 mC_81 d81_114 rfl rfl
theorem d81_115 : decode cX11_later 115 = .ok (.getfield 16, 3) := by decide +kernel
theorem k81_115 {d : Nat} {l0 l1 l2 l3 l4 : Option PV} {st : List PV} {M : Mem} {Q : Option PV → Mem → Prop} {r : Nat} (hk : mK M r = 11) : WP d 81 115 [l0, l1, l2, l3, l4] (vr r :: st) M Q = WP d 81 118 [l0, l1, l2, l3, l4] (vr (mR M r 1) :: st) M Q := w_getr mC_81 d81_115 fE_11_16 rfl (by rw [hk]; rfl)
theorem d81_118 : decode cX11_later 118 = .ok (.getfield 148, 3) := by decide +kernel
theorem k81_118 {d : Nat} {l0 l1 l2 l3 l4 : Option PV} {st : List PV} {M : Mem} {Q : Option PV → Mem → Prop} {r : Nat} (hk : mK M r = 4) : WP d 81 118 [l0, l1, l2, l3, l4] (vr r :: st) M Q = WP d 81 121 [l0, l1, l2, l3, l4] (vr (mR M r 1) :: st) M Q := w_getr mC_81 d81_118 fE_11_148 rfl (by rw [hk]; rfl)
theorem d81_121 : decode cX11_later 121 = .ok (.iload_n 2, 1) := by decide +kernel
theorem k81_121 {d : Nat} {x : Int32} {l0 l1 l3 l4 : Option PV} {st : List PV} {M : Mem} {Q : Option PV → Mem → Prop} : WP d 81 121 [l0, l1, some (vi x), l3, l4] (st) M Q = WP d 81 122 [l0, l1, some (vi x), l3, l4] (vi x :: st) M Q := w1 mC_81 d81_121 rfl rfl
theorem d81_122 : decode cX11_later 122 = .ok (.iaload, 1) := by decide +kernel
theorem k81_122 {d : Nat} {l0 l1 l2 l3 l4 : Option PV} {st : List PV} {M : Mem} {Q : Option PV → Mem → Prop} {r : Nat} {j : Int32} (hk : mK M r = 13) (hj : inb j (mN M r)) (_h1 : r ≠ 1) : WP d 81 122 [l0, l1, l2, l3, l4] (vi j :: vr r :: st) M Q = WP d 81 123 [l0, l1, l2, l3, l4] (vi (mI M r (ix j)) :: st) M Q := w_iald mC_81 d81_122 hk hj
theorem d81_123 : decode cX11_later 123 = .ok (.ireturn, 1) := by decide +kernel
theorem k81_123 {d : Nat} {l0 l1 l2 l3 l4 : Option PV} {M : Mem} {Q : Option PV → Mem → Prop} {x : Int32} : WP d 81 123 [l0, l1, l2, l3, l4] ([vi x]) M Q = Q (some (vi x)) M := w_iret mC_81 d81_123 rfl
theorem d82_0 : decode cX11_thinkOn 0 = .ok (.aload_n 0, 1) := by decide +kernel
theorem k82_0 {d x : Nat} {l1 l2 : Option PV} {st : List PV} {M : Mem} {Q : Option PV → Mem → Prop} : WP d 82 0 [some (vr x), l1, l2] (st) M Q = WP d 82 1 [some (vr x), l1, l2] (vr x :: st) M Q := w1 mC_82 d82_0 rfl rfl
theorem d82_1 : decode cX11_thinkOn 1 = .ok (.getfield 16, 3) := by decide +kernel
theorem k82_1 {d : Nat} {l0 l1 l2 : Option PV} {st : List PV} {M : Mem} {Q : Option PV → Mem → Prop} {r : Nat} (hk : mK M r = 11) : WP d 82 1 [l0, l1, l2] (vr r :: st) M Q = WP d 82 4 [l0, l1, l2] (vr (mR M r 1) :: st) M Q := w_getr mC_82 d82_1 fE_11_16 rfl (by rw [hk]; rfl)
theorem d82_4 : decode cX11_thinkOn 4 = .ok (.aload_n 0, 1) := by decide +kernel
theorem k82_4 {d x : Nat} {l1 l2 : Option PV} {st : List PV} {M : Mem} {Q : Option PV → Mem → Prop} : WP d 82 4 [some (vr x), l1, l2] (st) M Q = WP d 82 5 [some (vr x), l1, l2] (vr x :: st) M Q := w1 mC_82 d82_4 rfl rfl
theorem d82_5 : decode cX11_thinkOn 5 = .ok (.getfield 10, 3) := by decide +kernel
theorem k82_5 {d : Nat} {l0 l1 l2 : Option PV} {st : List PV} {M : Mem} {Q : Option PV → Mem → Prop} {r : Nat} (hk : mK M r = 11) : WP d 82 5 [l0, l1, l2] (vr r :: st) M Q = WP d 82 8 [l0, l1, l2] (vr (mR M r 0) :: st) M Q := w_getr mC_82 d82_5 fE_11_10 rfl (by rw [hk]; rfl)
theorem d82_8 : decode cX11_thinkOn 8 = .ok (.invokevirtual 151, 3) := by decide +kernel
theorem k82_8 {d : Nat} {l0 l1 l2 : Option PV} {st : List PV} {M : Mem} {Q : Option PV → Mem → Prop} {a0 : Nat} {r : Nat} (hl : szL st ≤ 8) (hk : mK M r = 4) : WP (d + 1) 82 8 [l0, l1, l2] (vr a0 :: vr r :: st) M Q = WP d 31 0 [some (vr r), some (vr a0)] [] M (fun v M' => WP (d + 1) 82 11 [l0, l1, l2] (psh v st) M' Q) := w_callV mC_82 d82_8 (ci := 4) rfl rfl rfl (Nat.le_of_ble_eq_true rfl) (by decide) rfl hl (Or.inl hk)
theorem d82_11 : decode cX11_thinkOn 11 = .ok (.iconst 0, 1) := by decide +kernel
theorem k82_11 {d : Nat} {l0 l1 l2 : Option PV} {st : List PV} {M : Mem} {Q : Option PV → Mem → Prop} : WP d 82 11 [l0, l1, l2] (st) M Q = WP d 82 12 [l0, l1, l2] (vi 0 :: st) M Q := w_iconst mC_82 d82_11 (by decide)
theorem d82_12 : decode cX11_thinkOn 12 = .ok (.istore_n 2, 1) := by decide +kernel
theorem k82_12 {d : Nat} {l0 l1 l2 : Option PV} {st : List PV} {M : Mem} {Q : Option PV → Mem → Prop} {x : Int32} : WP d 82 12 [l0, l1, l2] (vi x :: st) M Q = WP d 82 13 [l0, l1, some (vi x)] (st) M Q := w1 mC_82 d82_12 rfl rfl
theorem d82_13 : decode cX11_thinkOn 13 = .ok (.iload_n 2, 1) := by decide +kernel
theorem k82_13 {d : Nat} {x : Int32} {l0 l1 : Option PV} {st : List PV} {M : Mem} {Q : Option PV → Mem → Prop} : WP d 82 13 [l0, l1, some (vi x)] (st) M Q = WP d 82 14 [l0, l1, some (vi x)] (vi x :: st) M Q := w1 mC_82 d82_13 rfl rfl
theorem d82_14 : decode cX11_thinkOn 14 = .ok (.iload_n 1, 1) := by decide +kernel
theorem k82_14 {d : Nat} {x : Int32} {l0 l2 : Option PV} {st : List PV} {M : Mem} {Q : Option PV → Mem → Prop} : WP d 82 14 [l0, some (vi x), l2] (st) M Q = WP d 82 15 [l0, some (vi x), l2] (vi x :: st) M Q := w1 mC_82 d82_14 rfl rfl
theorem d82_15 : decode cX11_thinkOn 15 = .ok (.if_icmp .ge 21, 3) := by decide +kernel
theorem k82_15 {d : Nat} {l0 l1 l2 : Option PV} {st : List PV} {M : Mem} {Q : Option PV → Mem → Prop} {x y : Int32} : WP d 82 15 [l0, l1, l2] (vi y :: vi x :: st) M Q = (if y ≤ x then WP d 82 36 [l0, l1, l2] (st) M Q else WP d 82 18 [l0, l1, l2] (st) M Q) := w_ic_ge mC_82 d82_15 (by decide)
theorem d82_18 : decode cX11_thinkOn 18 = .ok (.aload_n 0, 1) := by decide +kernel
theorem k82_18 {d x : Nat} {l1 l2 : Option PV} {st : List PV} {M : Mem} {Q : Option PV → Mem → Prop} : WP d 82 18 [some (vr x), l1, l2] (st) M Q = WP d 82 19 [some (vr x), l1, l2] (vr x :: st) M Q := w1 mC_82 d82_18 rfl rfl
theorem d82_19 : decode cX11_thinkOn 19 = .ok (.getfield 16, 3) := by decide +kernel
theorem k82_19 {d : Nat} {l0 l1 l2 : Option PV} {st : List PV} {M : Mem} {Q : Option PV → Mem → Prop} {r : Nat} (hk : mK M r = 11) : WP d 82 19 [l0, l1, l2] (vr r :: st) M Q = WP d 82 22 [l0, l1, l2] (vr (mR M r 1) :: st) M Q := w_getr mC_82 d82_19 fE_11_16 rfl (by rw [hk]; rfl)
theorem d82_22 : decode cX11_thinkOn 22 = .ok (.aload_n 0, 1) := by decide +kernel
theorem k82_22 {d x : Nat} {l1 l2 : Option PV} {st : List PV} {M : Mem} {Q : Option PV → Mem → Prop} : WP d 82 22 [some (vr x), l1, l2] (st) M Q = WP d 82 23 [some (vr x), l1, l2] (vr x :: st) M Q := w1 mC_82 d82_22 rfl rfl
theorem d82_23 : decode cX11_thinkOn 23 = .ok (.getfield 25, 3) := by decide +kernel
theorem k82_23 {d : Nat} {l0 l1 l2 : Option PV} {st : List PV} {M : Mem} {Q : Option PV → Mem → Prop} {r : Nat} (hk : mK M r = 11) : WP d 82 23 [l0, l1, l2] (vr r :: st) M Q = WP d 82 26 [l0, l1, l2] (vr (mR M r 4) :: st) M Q := w_getr mC_82 d82_23 fE_11_25 rfl (by rw [hk]; rfl)
theorem d82_26 : decode cX11_thinkOn 26 = .ok (.invokevirtual 155, 3) := by decide +kernel
theorem k82_26 {d : Nat} {l0 l1 l2 : Option PV} {st : List PV} {M : Mem} {Q : Option PV → Mem → Prop} {a0 : Nat} {r : Nat} (hl : szL st ≤ 8) (hk : mK M r = 4) : WP (d + 1) 82 26 [l0, l1, l2] (vr a0 :: vr r :: st) M Q = WP d 44 0 [some (vr r), some (vr a0), none, none] [] M (fun v M' => WP (d + 1) 82 29 [l0, l1, l2] (psh v st) M' Q) := w_callV mC_82 d82_26 (ci := 4) rfl rfl rfl (Nat.le_of_ble_eq_true rfl) (by decide) rfl hl (Or.inl hk)
theorem d82_29 : decode cX11_thinkOn 29 = .ok (.pop, 1) := by decide +kernel
theorem k82_29 {d : Nat} {l0 l1 l2 : Option PV} {st : List PV} {M : Mem} {Q : Option PV → Mem → Prop} {x : Nat} : WP d 82 29 [l0, l1, l2] (vr x :: st) M Q = WP d 82 30 [l0, l1, l2] (st) M Q := w1 mC_82 d82_29 rfl rfl
theorem k82_29i {d : Nat} {l0 l1 l2 : Option PV} {st : List PV} {M : Mem} {Q : Option PV → Mem → Prop} {x : Int32} : WP d 82 29 [l0, l1, l2] (vi x :: st) M Q = WP d 82 30 [l0, l1, l2] (st) M Q := w1 mC_82 d82_29 rfl rfl
theorem d82_30 : decode cX11_thinkOn 30 = .ok (.iinc 2 1, 3) := by decide +kernel
theorem k82_30 {d : Nat} {x : Int32} {l0 l1 : Option PV} {st : List PV} {M : Mem} {Q : Option PV → Mem → Prop} : WP d 82 30 [l0, l1, some (vi x)] (st) M Q = WP d 82 33 [l0, l1, some (vi (x + 1))] (st) M Q := w_iinc mC_82 d82_30 rfl (by decide) rfl
theorem d82_33 : decode cX11_thinkOn 33 = .ok (.goto (-20), 3) := by decide +kernel
theorem k82_33 {d : Nat} {l0 l1 l2 : Option PV} {st : List PV} {M : Mem} {Q : Option PV → Mem → Prop} : WP d 82 33 [l0, l1, l2] (st) M Q = WP d 82 13 [l0, l1, l2] (st) M Q := w_goto mC_82 d82_33 (by decide)
theorem d82_36 : decode cX11_thinkOn 36 = .ok (.return_, 1) := by decide +kernel
theorem k82_36 {d : Nat} {l0 l1 l2 : Option PV} {M : Mem} {Q : Option PV → Mem → Prop} : WP d 82 36 [l0, l1, l2] ([]) M Q = Q none M := w_vret mC_82 d82_36 rfl
theorem d83_0 : decode cX11_marsh 0 = .ok (.iload_n 1, 1) := by decide +kernel
theorem k83_0 {d : Nat} {x : Int32} {l0 l2 : Option PV} {st : List PV} {M : Mem} {Q : Option PV → Mem → Prop} : WP d 83 0 [l0, some (vi x), l2] (st) M Q = WP d 83 1 [l0, some (vi x), l2] (vi x :: st) M Q := w1 mC_83 d83_0 rfl rfl
theorem d83_1 : decode cX11_marsh 1 = .ok (.iconst 0, 1) := by decide +kernel
theorem k83_1 {d : Nat} {l0 l1 l2 : Option PV} {st : List PV} {M : Mem} {Q : Option PV → Mem → Prop} : WP d 83 1 [l0, l1, l2] (st) M Q = WP d 83 2 [l0, l1, l2] (vi 0 :: st) M Q := w_iconst mC_83 d83_1 (by decide)
theorem d83_2 : decode cX11_marsh 2 = .ok (.bipush 40, 2) := by decide +kernel
theorem k83_2 {d : Nat} {l0 l1 l2 : Option PV} {st : List PV} {M : Mem} {Q : Option PV → Mem → Prop} : WP d 83 2 [l0, l1, l2] (st) M Q = WP d 83 4 [l0, l1, l2] (vi 40 :: st) M Q := w_bipush mC_83 d83_2 (by decide)
theorem d83_4 : decode cX11_marsh 4 = .ok (.invokestatic 79, 3) := by decide +kernel
theorem k83_4 {d : Nat} {l0 l1 l2 : Option PV} {st : List PV} {M : Mem} {Q : Option PV → Mem → Prop} {a0 a1 a2 : Int32} (hl : szL st ≤ 8) : WP (d + 1) 83 4 [l0, l1, l2] (vi a2 :: vi a1 :: vi a0 :: st) M Q = WP d 141 0 [some (vi a0), some (vi a1), some (vi a2)] [] M (fun v M' => WP (d + 1) 83 7 [l0, l1, l2] (psh v st) M' Q) := w_callS mC_83 d83_4 rfl rfl (Nat.le_of_ble_eq_true rfl) (by decide) rfl hl
theorem d83_7 : decode cX11_marsh 7 = .ok (.ifCond .eq 12, 3) := by decide +kernel
theorem k83_7 {d : Nat} {l0 l1 l2 : Option PV} {st : List PV} {M : Mem} {Q : Option PV → Mem → Prop} {x : Int32} : WP d 83 7 [l0, l1, l2] (vi x :: st) M Q = (if x = 0 then WP d 83 19 [l0, l1, l2] (st) M Q else WP d 83 10 [l0, l1, l2] (st) M Q) := w_if_eq mC_83 d83_7 (by decide)
theorem d83_10 : decode cX11_marsh 10 = .ok (.iload_n 2, 1) := by decide +kernel
theorem k83_10 {d : Nat} {x : Int32} {l0 l1 : Option PV} {st : List PV} {M : Mem} {Q : Option PV → Mem → Prop} : WP d 83 10 [l0, l1, some (vi x)] (st) M Q = WP d 83 11 [l0, l1, some (vi x)] (vi x :: st) M Q := w1 mC_83 d83_10 rfl rfl
theorem d83_11 : decode cX11_marsh 11 = .ok (.iconst 0, 1) := by decide +kernel
theorem k83_11 {d : Nat} {l0 l1 l2 : Option PV} {st : List PV} {M : Mem} {Q : Option PV → Mem → Prop} : WP d 83 11 [l0, l1, l2] (st) M Q = WP d 83 12 [l0, l1, l2] (vi 0 :: st) M Q := w_iconst mC_83 d83_11 (by decide)
theorem d83_12 : decode cX11_marsh 12 = .ok (.iconst 1, 1) := by decide +kernel
theorem k83_12 {d : Nat} {l0 l1 l2 : Option PV} {st : List PV} {M : Mem} {Q : Option PV → Mem → Prop} : WP d 83 12 [l0, l1, l2] (st) M Q = WP d 83 13 [l0, l1, l2] (vi 1 :: st) M Q := w_iconst mC_83 d83_12 (by decide)
theorem d83_13 : decode cX11_marsh 13 = .ok (.invokestatic 79, 3) := by decide +kernel
theorem k83_13 {d : Nat} {l0 l1 l2 : Option PV} {st : List PV} {M : Mem} {Q : Option PV → Mem → Prop} {a0 a1 a2 : Int32} (hl : szL st ≤ 8) : WP (d + 1) 83 13 [l0, l1, l2] (vi a2 :: vi a1 :: vi a0 :: st) M Q = WP d 141 0 [some (vi a0), some (vi a1), some (vi a2)] [] M (fun v M' => WP (d + 1) 83 16 [l0, l1, l2] (psh v st) M' Q) := w_callS mC_83 d83_13 rfl rfl (Nat.le_of_ble_eq_true rfl) (by decide) rfl hl
theorem d83_16 : decode cX11_marsh 16 = .ok (.ifCond .ne 5, 3) := by decide +kernel
theorem k83_16 {d : Nat} {l0 l1 l2 : Option PV} {st : List PV} {M : Mem} {Q : Option PV → Mem → Prop} {x : Int32} : WP d 83 16 [l0, l1, l2] (vi x :: st) M Q = (if x = 0 then WP d 83 19 [l0, l1, l2] (st) M Q else WP d 83 21 [l0, l1, l2] (st) M Q) := w_if_ne mC_83 d83_16 (by decide)
theorem d83_19 : decode cX11_marsh 19 = .ok (.iconst (-1), 1) := by decide +kernel
theorem k83_19 {d : Nat} {l0 l1 l2 : Option PV} {st : List PV} {M : Mem} {Q : Option PV → Mem → Prop} : WP d 83 19 [l0, l1, l2] (st) M Q = WP d 83 20 [l0, l1, l2] (vi (-1) :: st) M Q := w_iconst mC_83 d83_19 (by decide)
theorem d83_20 : decode cX11_marsh 20 = .ok (.ireturn, 1) := by decide +kernel
theorem k83_20 {d : Nat} {l0 l1 l2 : Option PV} {M : Mem} {Q : Option PV → Mem → Prop} {x : Int32} : WP d 83 20 [l0, l1, l2] ([vi x]) M Q = Q (some (vi x)) M := w_iret mC_83 d83_20 rfl
theorem d83_21 : decode cX11_marsh 21 = .ok (.aload_n 0, 1) := by decide +kernel
theorem k83_21 {d x : Nat} {l1 l2 : Option PV} {st : List PV} {M : Mem} {Q : Option PV → Mem → Prop} : WP d 83 21 [some (vr x), l1, l2] (st) M Q = WP d 83 22 [some (vr x), l1, l2] (vr x :: st) M Q := w1 mC_83 d83_21 rfl rfl
theorem d83_22 : decode cX11_marsh 22 = .ok (.iload_n 1, 1) := by decide +kernel
theorem k83_22 {d : Nat} {x : Int32} {l0 l2 : Option PV} {st : List PV} {M : Mem} {Q : Option PV → Mem → Prop} : WP d 83 22 [l0, some (vi x), l2] (st) M Q = WP d 83 23 [l0, some (vi x), l2] (vi x :: st) M Q := w1 mC_83 d83_22 rfl rfl
theorem d83_23 : decode cX11_marsh 23 = .ok (.invokevirtual 135, 3) := by decide +kernel
theorem k83_23 {d : Nat} {l0 l1 l2 : Option PV} {st : List PV} {M : Mem} {Q : Option PV → Mem → Prop} {a0 : Int32} {r : Nat} (hl : szL st ≤ 8) (hk : mK M r = 11) : WP (d + 1) 83 23 [l0, l1, l2] (vi a0 :: vr r :: st) M Q = WP d 82 0 [some (vr r), some (vi a0), none] [] M (fun v M' => WP (d + 1) 83 26 [l0, l1, l2] (psh v st) M' Q) := w_callV mC_83 d83_23 (ci := 11) rfl rfl rfl (Nat.le_of_ble_eq_true rfl) (by decide) rfl hl (Or.inl hk)
theorem d83_26 : decode cX11_marsh 26 = .ok (.iload_n 2, 1) := by decide +kernel
theorem k83_26 {d : Nat} {x : Int32} {l0 l1 : Option PV} {st : List PV} {M : Mem} {Q : Option PV → Mem → Prop} : WP d 83 26 [l0, l1, some (vi x)] (st) M Q = WP d 83 27 [l0, l1, some (vi x)] (vi x :: st) M Q := w1 mC_83 d83_26 rfl rfl
theorem d83_27 : decode cX11_marsh 27 = .ok (.ifCond .ne 13, 3) := by decide +kernel
theorem k83_27 {d : Nat} {l0 l1 l2 : Option PV} {st : List PV} {M : Mem} {Q : Option PV → Mem → Prop} {x : Int32} : WP d 83 27 [l0, l1, l2] (vi x :: st) M Q = (if x = 0 then WP d 83 30 [l0, l1, l2] (st) M Q else WP d 83 40 [l0, l1, l2] (st) M Q) := w_if_ne mC_83 d83_27 (by decide)
theorem d83_30 : decode cX11_marsh 30 = .ok (.aload_n 0, 1) := by decide +kernel
theorem k83_30 {d x : Nat} {l1 l2 : Option PV} {st : List PV} {M : Mem} {Q : Option PV → Mem → Prop} : WP d 83 30 [some (vr x), l1, l2] (st) M Q = WP d 83 31 [some (vr x), l1, l2] (vr x :: st) M Q := w1 mC_83 d83_30 rfl rfl
theorem d83_31 : decode cX11_marsh 31 = .ok (.getfield 16, 3) := by decide +kernel
theorem k83_31 {d : Nat} {l0 l1 l2 : Option PV} {st : List PV} {M : Mem} {Q : Option PV → Mem → Prop} {r : Nat} (hk : mK M r = 11) : WP d 83 31 [l0, l1, l2] (vr r :: st) M Q = WP d 83 34 [l0, l1, l2] (vr (mR M r 1) :: st) M Q := w_getr mC_83 d83_31 fE_11_16 rfl (by rw [hk]; rfl)
theorem d83_34 : decode cX11_marsh 34 = .ok (.invokevirtual 159, 3) := by decide +kernel
theorem k83_34 {d : Nat} {l0 l1 l2 : Option PV} {st : List PV} {M : Mem} {Q : Option PV → Mem → Prop} {r : Nat} (hl : szL st ≤ 8) (hk : mK M r = 4) : WP (d + 1) 83 34 [l0, l1, l2] (vr r :: st) M Q = WP d 35 0 [some (vr r), none, none] [] M (fun v M' => WP (d + 1) 83 37 [l0, l1, l2] (psh v st) M' Q) := w_callV mC_83 d83_34 (ci := 4) rfl rfl rfl (Nat.le_of_ble_eq_true rfl) (by decide) rfl hl (Or.inl hk)
theorem d83_37 : decode cX11_marsh 37 = .ok (.goto 10, 3) := by decide +kernel
theorem k83_37 {d : Nat} {l0 l1 l2 : Option PV} {st : List PV} {M : Mem} {Q : Option PV → Mem → Prop} : WP d 83 37 [l0, l1, l2] (st) M Q = WP d 83 47 [l0, l1, l2] (st) M Q := w_goto mC_83 d83_37 (by decide)
theorem d83_40 : decode cX11_marsh 40 = .ok (.aload_n 0, 1) := by decide +kernel
theorem k83_40 {d x : Nat} {l1 l2 : Option PV} {st : List PV} {M : Mem} {Q : Option PV → Mem → Prop} : WP d 83 40 [some (vr x), l1, l2] (st) M Q = WP d 83 41 [some (vr x), l1, l2] (vr x :: st) M Q := w1 mC_83 d83_40 rfl rfl
theorem d83_41 : decode cX11_marsh 41 = .ok (.getfield 16, 3) := by decide +kernel
theorem k83_41 {d : Nat} {l0 l1 l2 : Option PV} {st : List PV} {M : Mem} {Q : Option PV → Mem → Prop} {r : Nat} (hk : mK M r = 11) : WP d 83 41 [l0, l1, l2] (vr r :: st) M Q = WP d 83 44 [l0, l1, l2] (vr (mR M r 1) :: st) M Q := w_getr mC_83 d83_41 fE_11_16 rfl (by rw [hk]; rfl)
theorem d83_44 : decode cX11_marsh 44 = .ok (.invokevirtual 163, 3) := by decide +kernel
theorem k83_44 {d : Nat} {l0 l1 l2 : Option PV} {st : List PV} {M : Mem} {Q : Option PV → Mem → Prop} {r : Nat} (hl : szL st ≤ 8) (hk : mK M r = 4) : WP (d + 1) 83 44 [l0, l1, l2] (vr r :: st) M Q = WP d 36 0 [some (vr r), none, none] [] M (fun v M' => WP (d + 1) 83 47 [l0, l1, l2] (psh v st) M' Q) := w_callV mC_83 d83_44 (ci := 4) rfl rfl rfl (Nat.le_of_ble_eq_true rfl) (by decide) rfl hl (Or.inl hk)
theorem d83_47 : decode cX11_marsh 47 = .ok (.ireturn, 1) := by decide +kernel
theorem k83_47 {d : Nat} {l0 l1 l2 : Option PV} {M : Mem} {Q : Option PV → Mem → Prop} {x : Int32} : WP d 83 47 [l0, l1, l2] ([vi x]) M Q = Q (some (vi x)) M := w_iret mC_83 d83_47 rfl
theorem d84_0 : decode cX11_backWhen 0 = .ok (.iload_n 1, 1) := by decide +kernel
theorem k84_0 {d : Nat} {x : Int32} {l0 l2 l3 : Option PV} {st : List PV} {M : Mem} {Q : Option PV → Mem → Prop} : WP d 84 0 [l0, some (vi x), l2, l3] (st) M Q = WP d 84 1 [l0, some (vi x), l2, l3] (vi x :: st) M Q := w1 mC_84 d84_0 rfl rfl
theorem d84_1 : decode cX11_backWhen 1 = .ok (.iconst (-1), 1) := by decide +kernel
theorem k84_1 {d : Nat} {l0 l1 l2 l3 : Option PV} {st : List PV} {M : Mem} {Q : Option PV → Mem → Prop} : WP d 84 1 [l0, l1, l2, l3] (st) M Q = WP d 84 2 [l0, l1, l2, l3] (vi (-1) :: st) M Q := w_iconst mC_84 d84_1 (by decide)
theorem d84_2 : decode cX11_backWhen 2 = .ok (.if_icmp .eq 16, 3) := by decide +kernel
theorem k84_2 {d : Nat} {l0 l1 l2 l3 : Option PV} {st : List PV} {M : Mem} {Q : Option PV → Mem → Prop} {x y : Int32} : WP d 84 2 [l0, l1, l2, l3] (vi y :: vi x :: st) M Q = (if x = y then WP d 84 18 [l0, l1, l2, l3] (st) M Q else WP d 84 5 [l0, l1, l2, l3] (st) M Q) := w_ic_eq mC_84 d84_2 (by decide)
theorem d84_5 : decode cX11_backWhen 5 = .ok (.aload_n 0, 1) := by decide +kernel
theorem k84_5 {d x : Nat} {l1 l2 l3 : Option PV} {st : List PV} {M : Mem} {Q : Option PV → Mem → Prop} : WP d 84 5 [some (vr x), l1, l2, l3] (st) M Q = WP d 84 6 [some (vr x), l1, l2, l3] (vr x :: st) M Q := w1 mC_84 d84_5 rfl rfl
theorem d84_6 : decode cX11_backWhen 6 = .ok (.getfield 10, 3) := by decide +kernel
theorem k84_6 {d : Nat} {l0 l1 l2 l3 : Option PV} {st : List PV} {M : Mem} {Q : Option PV → Mem → Prop} {r : Nat} (hk : mK M r = 11) : WP d 84 6 [l0, l1, l2, l3] (vr r :: st) M Q = WP d 84 9 [l0, l1, l2, l3] (vr (mR M r 0) :: st) M Q := w_getr mC_84 d84_6 fE_11_10 rfl (by rw [hk]; rfl)
theorem d84_9 : decode cX11_backWhen 9 = .ok (.iload_n 1, 1) := by decide +kernel
theorem k84_9 {d : Nat} {x : Int32} {l0 l2 l3 : Option PV} {st : List PV} {M : Mem} {Q : Option PV → Mem → Prop} : WP d 84 9 [l0, some (vi x), l2, l3] (st) M Q = WP d 84 10 [l0, some (vi x), l2, l3] (vi x :: st) M Q := w1 mC_84 d84_9 rfl rfl
theorem d84_10 : decode cX11_backWhen 10 = .ok (.invokevirtual 128, 3) := by decide +kernel
theorem k84_10 {d : Nat} {l0 l1 l2 l3 : Option PV} {st : List PV} {M : Mem} {Q : Option PV → Mem → Prop} {a0 : Int32} {r : Nat} (hl : szL st ≤ 8) (hk : mK M r = 4) : WP (d + 1) 84 10 [l0, l1, l2, l3] (vi a0 :: vr r :: st) M Q = WP d 25 0 [some (vr r), some (vi a0)] [] M (fun v M' => WP (d + 1) 84 13 [l0, l1, l2, l3] (psh v st) M' Q) := w_callV mC_84 d84_10 (ci := 4) rfl rfl rfl (Nat.le_of_ble_eq_true rfl) (by decide) rfl hl (Or.inl hk)
theorem d84_13 : decode cX11_backWhen 13 = .ok (.ifCond .ne 5, 3) := by decide +kernel
theorem k84_13 {d : Nat} {l0 l1 l2 l3 : Option PV} {st : List PV} {M : Mem} {Q : Option PV → Mem → Prop} {x : Int32} : WP d 84 13 [l0, l1, l2, l3] (vi x :: st) M Q = (if x = 0 then WP d 84 16 [l0, l1, l2, l3] (st) M Q else WP d 84 18 [l0, l1, l2, l3] (st) M Q) := w_if_ne mC_84 d84_13 (by decide)
theorem d84_16 : decode cX11_backWhen 16 = .ok (.iconst (-1), 1) := by decide +kernel
theorem k84_16 {d : Nat} {l0 l1 l2 l3 : Option PV} {st : List PV} {M : Mem} {Q : Option PV → Mem → Prop} : WP d 84 16 [l0, l1, l2, l3] (st) M Q = WP d 84 17 [l0, l1, l2, l3] (vi (-1) :: st) M Q := w_iconst mC_84 d84_16 (by decide)
theorem d84_17 : decode cX11_backWhen 17 = .ok (.ireturn, 1) := by decide +kernel
theorem k84_17 {d : Nat} {l0 l1 l2 l3 : Option PV} {M : Mem} {Q : Option PV → Mem → Prop} {x : Int32} : WP d 84 17 [l0, l1, l2, l3] ([vi x]) M Q = Q (some (vi x)) M := w_iret mC_84 d84_17 rfl
theorem d84_18 : decode cX11_backWhen 18 = .ok (.iload_n 1, 1) := by decide +kernel
theorem k84_18 {d : Nat} {x : Int32} {l0 l2 l3 : Option PV} {st : List PV} {M : Mem} {Q : Option PV → Mem → Prop} : WP d 84 18 [l0, some (vi x), l2, l3] (st) M Q = WP d 84 19 [l0, some (vi x), l2, l3] (vi x :: st) M Q := w1 mC_84 d84_18 rfl rfl
theorem d84_19 : decode cX11_backWhen 19 = .ok (.iconst (-1), 1) := by decide +kernel
theorem k84_19 {d : Nat} {l0 l1 l2 l3 : Option PV} {st : List PV} {M : Mem} {Q : Option PV → Mem → Prop} : WP d 84 19 [l0, l1, l2, l3] (st) M Q = WP d 84 20 [l0, l1, l2, l3] (vi (-1) :: st) M Q := w_iconst mC_84 d84_19 (by decide)
theorem d84_20 : decode cX11_backWhen 20 = .ok (.if_icmp .ne 9, 3) := by decide +kernel
theorem k84_20 {d : Nat} {l0 l1 l2 l3 : Option PV} {st : List PV} {M : Mem} {Q : Option PV → Mem → Prop} {x y : Int32} : WP d 84 20 [l0, l1, l2, l3] (vi y :: vi x :: st) M Q = (if x = y then WP d 84 23 [l0, l1, l2, l3] (st) M Q else WP d 84 29 [l0, l1, l2, l3] (st) M Q) := w_ic_ne mC_84 d84_20 (by decide)
theorem d84_23 : decode cX11_backWhen 23 = .ok (.sipush 255, 3) := by decide +kernel
theorem k84_23 {d : Nat} {l0 l1 l2 l3 : Option PV} {st : List PV} {M : Mem} {Q : Option PV → Mem → Prop} : WP d 84 23 [l0, l1, l2, l3] (st) M Q = WP d 84 26 [l0, l1, l2, l3] (vi 255 :: st) M Q := w_sipush mC_84 d84_23 (by decide)
theorem d84_26 : decode cX11_backWhen 26 = .ok (.goto 6, 3) := by decide +kernel
theorem k84_26 {d : Nat} {l0 l1 l2 l3 : Option PV} {st : List PV} {M : Mem} {Q : Option PV → Mem → Prop} : WP d 84 26 [l0, l1, l2, l3] (st) M Q = WP d 84 32 [l0, l1, l2, l3] (st) M Q := w_goto mC_84 d84_26 (by decide)
theorem d84_29 : decode cX11_backWhen 29 = .ok (.iconst 1, 1) := by decide +kernel
theorem k84_29 {d : Nat} {l0 l1 l2 l3 : Option PV} {st : List PV} {M : Mem} {Q : Option PV → Mem → Prop} : WP d 84 29 [l0, l1, l2, l3] (st) M Q = WP d 84 30 [l0, l1, l2, l3] (vi 1 :: st) M Q := w_iconst mC_84 d84_29 (by decide)
theorem d84_30 : decode cX11_backWhen 30 = .ok (.iload_n 1, 1) := by decide +kernel
theorem k84_30 {d : Nat} {x : Int32} {l0 l2 l3 : Option PV} {st : List PV} {M : Mem} {Q : Option PV → Mem → Prop} : WP d 84 30 [l0, some (vi x), l2, l3] (st) M Q = WP d 84 31 [l0, some (vi x), l2, l3] (vi x :: st) M Q := w1 mC_84 d84_30 rfl rfl
theorem d84_31 : decode cX11_backWhen 31 = .ok (.ishl, 1) := by decide +kernel
theorem k84_31 {d : Nat} {l0 l1 l2 l3 : Option PV} {st : List PV} {M : Mem} {Q : Option PV → Mem → Prop} {x y : Int32} : WP d 84 31 [l0, l1, l2, l3] (vi y :: vi x :: st) M Q = WP d 84 32 [l0, l1, l2, l3] (vi (x <<< (y &&& 31)) :: st) M Q := w1 mC_84 d84_31 rfl rfl
theorem d84_32 : decode cX11_backWhen 32 = .ok (.istore_n 2, 1) := by decide +kernel
theorem k84_32 {d : Nat} {l0 l1 l2 l3 : Option PV} {st : List PV} {M : Mem} {Q : Option PV → Mem → Prop} {x : Int32} : WP d 84 32 [l0, l1, l2, l3] (vi x :: st) M Q = WP d 84 33 [l0, l1, some (vi x), l3] (st) M Q := w1 mC_84 d84_32 rfl rfl
theorem d84_33 : decode cX11_backWhen 33 = .ok (.aload_n 0, 1) := by decide +kernel
theorem k84_33 {d x : Nat} {l1 l2 l3 : Option PV} {st : List PV} {M : Mem} {Q : Option PV → Mem → Prop} : WP d 84 33 [some (vr x), l1, l2, l3] (st) M Q = WP d 84 34 [some (vr x), l1, l2, l3] (vr x :: st) M Q := w1 mC_84 d84_33 rfl rfl
theorem d84_34 : decode cX11_backWhen 34 = .ok (.getfield 16, 3) := by decide +kernel
theorem k84_34 {d : Nat} {l0 l1 l2 l3 : Option PV} {st : List PV} {M : Mem} {Q : Option PV → Mem → Prop} {r : Nat} (hk : mK M r = 11) : WP d 84 34 [l0, l1, l2, l3] (vr r :: st) M Q = WP d 84 37 [l0, l1, l2, l3] (vr (mR M r 1) :: st) M Q := w_getr mC_84 d84_34 fE_11_16 rfl (by rw [hk]; rfl)
theorem d84_37 : decode cX11_backWhen 37 = .ok (.aload_n 0, 1) := by decide +kernel
theorem k84_37 {d x : Nat} {l1 l2 l3 : Option PV} {st : List PV} {M : Mem} {Q : Option PV → Mem → Prop} : WP d 84 37 [some (vr x), l1, l2, l3] (st) M Q = WP d 84 38 [some (vr x), l1, l2, l3] (vr x :: st) M Q := w1 mC_84 d84_37 rfl rfl
theorem d84_38 : decode cX11_backWhen 38 = .ok (.getfield 10, 3) := by decide +kernel
theorem k84_38 {d : Nat} {l0 l1 l2 l3 : Option PV} {st : List PV} {M : Mem} {Q : Option PV → Mem → Prop} {r : Nat} (hk : mK M r = 11) : WP d 84 38 [l0, l1, l2, l3] (vr r :: st) M Q = WP d 84 41 [l0, l1, l2, l3] (vr (mR M r 0) :: st) M Q := w_getr mC_84 d84_38 fE_11_10 rfl (by rw [hk]; rfl)
theorem d84_41 : decode cX11_backWhen 41 = .ok (.invokevirtual 151, 3) := by decide +kernel
theorem k84_41 {d : Nat} {l0 l1 l2 l3 : Option PV} {st : List PV} {M : Mem} {Q : Option PV → Mem → Prop} {a0 : Nat} {r : Nat} (hl : szL st ≤ 8) (hk : mK M r = 4) : WP (d + 1) 84 41 [l0, l1, l2, l3] (vr a0 :: vr r :: st) M Q = WP d 31 0 [some (vr r), some (vr a0)] [] M (fun v M' => WP (d + 1) 84 44 [l0, l1, l2, l3] (psh v st) M' Q) := w_callV mC_84 d84_41 (ci := 4) rfl rfl rfl (Nat.le_of_ble_eq_true rfl) (by decide) rfl hl (Or.inl hk)
theorem d84_44 : decode cX11_backWhen 44 = .ok (.iconst 0, 1) := by decide +kernel
theorem k84_44 {d : Nat} {l0 l1 l2 l3 : Option PV} {st : List PV} {M : Mem} {Q : Option PV → Mem → Prop} : WP d 84 44 [l0, l1, l2, l3] (st) M Q = WP d 84 45 [l0, l1, l2, l3] (vi 0 :: st) M Q := w_iconst mC_84 d84_44 (by decide)
theorem d84_45 : decode cX11_backWhen 45 = .ok (.istore_n 3, 1) := by decide +kernel
theorem k84_45 {d : Nat} {l0 l1 l2 l3 : Option PV} {st : List PV} {M : Mem} {Q : Option PV → Mem → Prop} {x : Int32} : WP d 84 45 [l0, l1, l2, l3] (vi x :: st) M Q = WP d 84 46 [l0, l1, l2, some (vi x)] (st) M Q := w1 mC_84 d84_45 rfl rfl
theorem d84_46 : decode cX11_backWhen 46 = .ok (.iload_n 3, 1) := by decide +kernel
theorem k84_46 {d : Nat} {x : Int32} {l0 l1 l2 : Option PV} {st : List PV} {M : Mem} {Q : Option PV → Mem → Prop} : WP d 84 46 [l0, l1, l2, some (vi x)] (st) M Q = WP d 84 47 [l0, l1, l2, some (vi x)] (vi x :: st) M Q := w1 mC_84 d84_46 rfl rfl
theorem d84_47 : decode cX11_backWhen 47 = .ok (.bipush 40, 2) := by decide +kernel
theorem k84_47 {d : Nat} {l0 l1 l2 l3 : Option PV} {st : List PV} {M : Mem} {Q : Option PV → Mem → Prop} : WP d 84 47 [l0, l1, l2, l3] (st) M Q = WP d 84 49 [l0, l1, l2, l3] (vi 40 :: st) M Q := w_bipush mC_84 d84_47 (by decide)
theorem d84_49 : decode cX11_backWhen 49 = .ok (.if_icmp .gt 35, 3) := by decide +kernel
theorem k84_49 {d : Nat} {l0 l1 l2 l3 : Option PV} {st : List PV} {M : Mem} {Q : Option PV → Mem → Prop} {x y : Int32} : WP d 84 49 [l0, l1, l2, l3] (vi y :: vi x :: st) M Q = (if y < x then WP d 84 84 [l0, l1, l2, l3] (st) M Q else WP d 84 52 [l0, l1, l2, l3] (st) M Q) := w_ic_gt mC_84 d84_49 (by decide)
theorem d84_52 : decode cX11_backWhen 52 = .ok (.aload_n 0, 1) := by decide +kernel
theorem k84_52 {d x : Nat} {l1 l2 l3 : Option PV} {st : List PV} {M : Mem} {Q : Option PV → Mem → Prop} : WP d 84 52 [some (vr x), l1, l2, l3] (st) M Q = WP d 84 53 [some (vr x), l1, l2, l3] (vr x :: st) M Q := w1 mC_84 d84_52 rfl rfl
theorem d84_53 : decode cX11_backWhen 53 = .ok (.getfield 16, 3) := by decide +kernel
theorem k84_53 {d : Nat} {l0 l1 l2 l3 : Option PV} {st : List PV} {M : Mem} {Q : Option PV → Mem → Prop} {r : Nat} (hk : mK M r = 11) : WP d 84 53 [l0, l1, l2, l3] (vr r :: st) M Q = WP d 84 56 [l0, l1, l2, l3] (vr (mR M r 1) :: st) M Q := w_getr mC_84 d84_53 fE_11_16 rfl (by rw [hk]; rfl)
theorem d84_56 : decode cX11_backWhen 56 = .ok (.invokevirtual 159, 3) := by decide +kernel
theorem k84_56 {d : Nat} {l0 l1 l2 l3 : Option PV} {st : List PV} {M : Mem} {Q : Option PV → Mem → Prop} {r : Nat} (hl : szL st ≤ 8) (hk : mK M r = 4) : WP (d + 1) 84 56 [l0, l1, l2, l3] (vr r :: st) M Q = WP d 35 0 [some (vr r), none, none] [] M (fun v M' => WP (d + 1) 84 59 [l0, l1, l2, l3] (psh v st) M' Q) := w_callV mC_84 d84_56 (ci := 4) rfl rfl rfl (Nat.le_of_ble_eq_true rfl) (by decide) rfl hl (Or.inl hk)
theorem d84_59 : decode cX11_backWhen 59 = .ok (.iload_n 2, 1) := by decide +kernel
theorem k84_59 {d : Nat} {x : Int32} {l0 l1 l3 : Option PV} {st : List PV} {M : Mem} {Q : Option PV → Mem → Prop} : WP d 84 59 [l0, l1, some (vi x), l3] (st) M Q = WP d 84 60 [l0, l1, some (vi x), l3] (vi x :: st) M Q := w1 mC_84 d84_59 rfl rfl
theorem d84_60 : decode cX11_backWhen 60 = .ok (.iand, 1) := by decide +kernel
theorem k84_60 {d : Nat} {l0 l1 l2 l3 : Option PV} {st : List PV} {M : Mem} {Q : Option PV → Mem → Prop} {x y : Int32} : WP d 84 60 [l0, l1, l2, l3] (vi y :: vi x :: st) M Q = WP d 84 61 [l0, l1, l2, l3] (vi (x &&& y) :: st) M Q := w1 mC_84 d84_60 rfl rfl
theorem d84_61 : decode cX11_backWhen 61 = .ok (.ifCond .ne 5, 3) := by decide +kernel
theorem k84_61 {d : Nat} {l0 l1 l2 l3 : Option PV} {st : List PV} {M : Mem} {Q : Option PV → Mem → Prop} {x : Int32} : WP d 84 61 [l0, l1, l2, l3] (vi x :: st) M Q = (if x = 0 then WP d 84 64 [l0, l1, l2, l3] (st) M Q else WP d 84 66 [l0, l1, l2, l3] (st) M Q) := w_if_ne mC_84 d84_61 (by decide)
theorem d84_64 : decode cX11_backWhen 64 = .ok (.iload_n 3, 1) := by decide +kernel
theorem k84_64 {d : Nat} {x : Int32} {l0 l1 l2 : Option PV} {st : List PV} {M : Mem} {Q : Option PV → Mem → Prop} : WP d 84 64 [l0, l1, l2, some (vi x)] (st) M Q = WP d 84 65 [l0, l1, l2, some (vi x)] (vi x :: st) M Q := w1 mC_84 d84_64 rfl rfl
theorem d84_65 : decode cX11_backWhen 65 = .ok (.ireturn, 1) := by decide +kernel
theorem k84_65 {d : Nat} {l0 l1 l2 l3 : Option PV} {M : Mem} {Q : Option PV → Mem → Prop} {x : Int32} : WP d 84 65 [l0, l1, l2, l3] ([vi x]) M Q = Q (some (vi x)) M := w_iret mC_84 d84_65 rfl
theorem d84_66 : decode cX11_backWhen 66 = .ok (.aload_n 0, 1) := by decide +kernel
theorem k84_66 {d x : Nat} {l1 l2 l3 : Option PV} {st : List PV} {M : Mem} {Q : Option PV → Mem → Prop} : WP d 84 66 [some (vr x), l1, l2, l3] (st) M Q = WP d 84 67 [some (vr x), l1, l2, l3] (vr x :: st) M Q := w1 mC_84 d84_66 rfl rfl
theorem d84_67 : decode cX11_backWhen 67 = .ok (.getfield 16, 3) := by decide +kernel
theorem k84_67 {d : Nat} {l0 l1 l2 l3 : Option PV} {st : List PV} {M : Mem} {Q : Option PV → Mem → Prop} {r : Nat} (hk : mK M r = 11) : WP d 84 67 [l0, l1, l2, l3] (vr r :: st) M Q = WP d 84 70 [l0, l1, l2, l3] (vr (mR M r 1) :: st) M Q := w_getr mC_84 d84_67 fE_11_16 rfl (by rw [hk]; rfl)
theorem d84_70 : decode cX11_backWhen 70 = .ok (.aload_n 0, 1) := by decide +kernel
theorem k84_70 {d x : Nat} {l1 l2 l3 : Option PV} {st : List PV} {M : Mem} {Q : Option PV → Mem → Prop} : WP d 84 70 [some (vr x), l1, l2, l3] (st) M Q = WP d 84 71 [some (vr x), l1, l2, l3] (vr x :: st) M Q := w1 mC_84 d84_70 rfl rfl
theorem d84_71 : decode cX11_backWhen 71 = .ok (.getfield 25, 3) := by decide +kernel
theorem k84_71 {d : Nat} {l0 l1 l2 l3 : Option PV} {st : List PV} {M : Mem} {Q : Option PV → Mem → Prop} {r : Nat} (hk : mK M r = 11) : WP d 84 71 [l0, l1, l2, l3] (vr r :: st) M Q = WP d 84 74 [l0, l1, l2, l3] (vr (mR M r 4) :: st) M Q := w_getr mC_84 d84_71 fE_11_25 rfl (by rw [hk]; rfl)
theorem d84_74 : decode cX11_backWhen 74 = .ok (.invokevirtual 155, 3) := by decide +kernel
theorem k84_74 {d : Nat} {l0 l1 l2 l3 : Option PV} {st : List PV} {M : Mem} {Q : Option PV → Mem → Prop} {a0 : Nat} {r : Nat} (hl : szL st ≤ 8) (hk : mK M r = 4) : WP (d + 1) 84 74 [l0, l1, l2, l3] (vr a0 :: vr r :: st) M Q = WP d 44 0 [some (vr r), some (vr a0), none, none] [] M (fun v M' => WP (d + 1) 84 77 [l0, l1, l2, l3] (psh v st) M' Q) := w_callV mC_84 d84_74 (ci := 4) rfl rfl rfl (Nat.le_of_ble_eq_true rfl) (by decide) rfl hl (Or.inl hk)
theorem d84_77 : decode cX11_backWhen 77 = .ok (.pop, 1) := by decide +kernel
theorem k84_77 {d : Nat} {l0 l1 l2 l3 : Option PV} {st : List PV} {M : Mem} {Q : Option PV → Mem → Prop} {x : Nat} : WP d 84 77 [l0, l1, l2, l3] (vr x :: st) M Q = WP d 84 78 [l0, l1, l2, l3] (st) M Q := w1 mC_84 d84_77 rfl rfl
theorem k84_77i {d : Nat} {l0 l1 l2 l3 : Option PV} {st : List PV} {M : Mem} {Q : Option PV → Mem → Prop} {x : Int32} : WP d 84 77 [l0, l1, l2, l3] (vi x :: st) M Q = WP d 84 78 [l0, l1, l2, l3] (st) M Q := w1 mC_84 d84_77 rfl rfl
theorem d84_78 : decode cX11_backWhen 78 = .ok (.iinc 3 1, 3) := by decide +kernel
theorem k84_78 {d : Nat} {x : Int32} {l0 l1 l2 : Option PV} {st : List PV} {M : Mem} {Q : Option PV → Mem → Prop} : WP d 84 78 [l0, l1, l2, some (vi x)] (st) M Q = WP d 84 81 [l0, l1, l2, some (vi (x + 1))] (st) M Q := w_iinc mC_84 d84_78 rfl (by decide) rfl
theorem d84_81 : decode cX11_backWhen 81 = .ok (.goto (-35), 3) := by decide +kernel
theorem k84_81 {d : Nat} {l0 l1 l2 l3 : Option PV} {st : List PV} {M : Mem} {Q : Option PV → Mem → Prop} : WP d 84 81 [l0, l1, l2, l3] (st) M Q = WP d 84 46 [l0, l1, l2, l3] (st) M Q := w_goto mC_84 d84_81 (by decide)
theorem d84_84 : decode cX11_backWhen 84 = .ok (.bipush (-2), 2) := by decide +kernel
theorem k84_84 {d : Nat} {l0 l1 l2 l3 : Option PV} {st : List PV} {M : Mem} {Q : Option PV → Mem → Prop} : WP d 84 84 [l0, l1, l2, l3] (st) M Q = WP d 84 86 [l0, l1, l2, l3] (vi (-2) :: st) M Q := w_bipush mC_84 d84_84 (by decide)
theorem d84_86 : decode cX11_backWhen 86 = .ok (.ireturn, 1) := by decide +kernel
theorem k84_86 {d : Nat} {l0 l1 l2 l3 : Option PV} {M : Mem} {Q : Option PV → Mem → Prop} {x : Int32} : WP d 84 86 [l0, l1, l2, l3] ([vi x]) M Q = Q (some (vi x)) M := w_iret mC_84 d84_86 rfl
theorem d85_0 : decode cX11_loan 0 = .ok (.aload_n 0, 1) := by decide +kernel
theorem k85_0 {d x : Nat} {l1 l2 l3 : Option PV} {st : List PV} {M : Mem} {Q : Option PV → Mem → Prop} : WP d 85 0 [some (vr x), l1, l2, l3] (st) M Q = WP d 85 1 [some (vr x), l1, l2, l3] (vr x :: st) M Q := w1 mC_85 d85_0 rfl rfl
theorem d85_1 : decode cX11_loan 1 = .ok (.iload_n 1, 1) := by decide +kernel
theorem k85_1 {d : Nat} {x : Int32} {l0 l2 l3 : Option PV} {st : List PV} {M : Mem} {Q : Option PV → Mem → Prop} : WP d 85 1 [l0, some (vi x), l2, l3] (st) M Q = WP d 85 2 [l0, some (vi x), l2, l3] (vi x :: st) M Q := w1 mC_85 d85_1 rfl rfl
theorem d85_2 : decode cX11_loan 2 = .ok (.invokevirtual 166, 3) := by decide +kernel
theorem k85_2 {d : Nat} {l0 l1 l2 l3 : Option PV} {st : List PV} {M : Mem} {Q : Option PV → Mem → Prop} {a0 : Int32} {r : Nat} (hl : szL st ≤ 8) (hk : mK M r = 11) : WP (d + 1) 85 2 [l0, l1, l2, l3] (vi a0 :: vr r :: st) M Q = WP d 143 0 [some (vr r), some (vi a0)] [] M (fun v M' => WP (d + 1) 85 5 [l0, l1, l2, l3] (psh v st) M' Q) := w_callV mC_85 d85_2 (ci := 11) rfl rfl rfl (Nat.le_of_ble_eq_true rfl) (by decide) rfl hl (Or.inl hk)
theorem d85_5 : decode cX11_loan 5 = .ok (.ifCond .eq 22, 3) := by decide +kernel
theorem k85_5 {d : Nat} {l0 l1 l2 l3 : Option PV} {st : List PV} {M : Mem} {Q : Option PV → Mem → Prop} {x : Int32} : WP d 85 5 [l0, l1, l2, l3] (vi x :: st) M Q = (if x = 0 then WP d 85 27 [l0, l1, l2, l3] (st) M Q else WP d 85 8 [l0, l1, l2, l3] (st) M Q) := w_if_eq mC_85 d85_5 (by decide)
theorem d85_8 : decode cX11_loan 8 = .ok (.iload_n 2, 1) := by decide +kernel
theorem k85_8 {d : Nat} {x : Int32} {l0 l1 l3 : Option PV} {st : List PV} {M : Mem} {Q : Option PV → Mem → Prop} : WP d 85 8 [l0, l1, some (vi x), l3] (st) M Q = WP d 85 9 [l0, l1, some (vi x), l3] (vi x :: st) M Q := w1 mC_85 d85_8 rfl rfl
theorem d85_9 : decode cX11_loan 9 = .ok (.iconst 1, 1) := by decide +kernel
theorem k85_9 {d : Nat} {l0 l1 l2 l3 : Option PV} {st : List PV} {M : Mem} {Q : Option PV → Mem → Prop} : WP d 85 9 [l0, l1, l2, l3] (st) M Q = WP d 85 10 [l0, l1, l2, l3] (vi 1 :: st) M Q := w_iconst mC_85 d85_9 (by decide)
theorem d85_10 : decode cX11_loan 10 = .ok (.bipush 99, 2) := by decide +kernel
theorem k85_10 {d : Nat} {l0 l1 l2 l3 : Option PV} {st : List PV} {M : Mem} {Q : Option PV → Mem → Prop} : WP d 85 10 [l0, l1, l2, l3] (st) M Q = WP d 85 12 [l0, l1, l2, l3] (vi 99 :: st) M Q := w_bipush mC_85 d85_10 (by decide)
theorem d85_12 : decode cX11_loan 12 = .ok (.invokestatic 79, 3) := by decide +kernel
theorem k85_12 {d : Nat} {l0 l1 l2 l3 : Option PV} {st : List PV} {M : Mem} {Q : Option PV → Mem → Prop} {a0 a1 a2 : Int32} (hl : szL st ≤ 8) : WP (d + 1) 85 12 [l0, l1, l2, l3] (vi a2 :: vi a1 :: vi a0 :: st) M Q = WP d 141 0 [some (vi a0), some (vi a1), some (vi a2)] [] M (fun v M' => WP (d + 1) 85 15 [l0, l1, l2, l3] (psh v st) M' Q) := w_callS mC_85 d85_12 rfl rfl (Nat.le_of_ble_eq_true rfl) (by decide) rfl hl
theorem d85_15 : decode cX11_loan 15 = .ok (.ifCond .eq 12, 3) := by decide +kernel
theorem k85_15 {d : Nat} {l0 l1 l2 l3 : Option PV} {st : List PV} {M : Mem} {Q : Option PV → Mem → Prop} {x : Int32} : WP d 85 15 [l0, l1, l2, l3] (vi x :: st) M Q = (if x = 0 then WP d 85 27 [l0, l1, l2, l3] (st) M Q else WP d 85 18 [l0, l1, l2, l3] (st) M Q) := w_if_eq mC_85 d85_15 (by decide)
theorem d85_18 : decode cX11_loan 18 = .ok (.iload_n 3, 1) := by decide +kernel
theorem k85_18 {d : Nat} {x : Int32} {l0 l1 l2 : Option PV} {st : List PV} {M : Mem} {Q : Option PV → Mem → Prop} : WP d 85 18 [l0, l1, l2, some (vi x)] (st) M Q = WP d 85 19 [l0, l1, l2, some (vi x)] (vi x :: st) M Q := w1 mC_85 d85_18 rfl rfl
theorem d85_19 : decode cX11_loan 19 = .ok (.iconst 0, 1) := by decide +kernel
theorem k85_19 {d : Nat} {l0 l1 l2 l3 : Option PV} {st : List PV} {M : Mem} {Q : Option PV → Mem → Prop} : WP d 85 19 [l0, l1, l2, l3] (st) M Q = WP d 85 20 [l0, l1, l2, l3] (vi 0 :: st) M Q := w_iconst mC_85 d85_19 (by decide)
theorem d85_20 : decode cX11_loan 20 = .ok (.iconst 1, 1) := by decide +kernel
theorem k85_20 {d : Nat} {l0 l1 l2 l3 : Option PV} {st : List PV} {M : Mem} {Q : Option PV → Mem → Prop} : WP d 85 20 [l0, l1, l2, l3] (st) M Q = WP d 85 21 [l0, l1, l2, l3] (vi 1 :: st) M Q := w_iconst mC_85 d85_20 (by decide)
theorem d85_21 : decode cX11_loan 21 = .ok (.invokestatic 79, 3) := by decide +kernel
theorem k85_21 {d : Nat} {l0 l1 l2 l3 : Option PV} {st : List PV} {M : Mem} {Q : Option PV → Mem → Prop} {a0 a1 a2 : Int32} (hl : szL st ≤ 8) : WP (d + 1) 85 21 [l0, l1, l2, l3] (vi a2 :: vi a1 :: vi a0 :: st) M Q = WP d 141 0 [some (vi a0), some (vi a1), some (vi a2)] [] M (fun v M' => WP (d + 1) 85 24 [l0, l1, l2, l3] (psh v st) M' Q) := w_callS mC_85 d85_21 rfl rfl (Nat.le_of_ble_eq_true rfl) (by decide) rfl hl
theorem d85_24 : decode cX11_loan 24 = .ok (.ifCond .ne 5, 3) := by decide +kernel
theorem k85_24 {d : Nat} {l0 l1 l2 l3 : Option PV} {st : List PV} {M : Mem} {Q : Option PV → Mem → Prop} {x : Int32} : WP d 85 24 [l0, l1, l2, l3] (vi x :: st) M Q = (if x = 0 then WP d 85 27 [l0, l1, l2, l3] (st) M Q else WP d 85 29 [l0, l1, l2, l3] (st) M Q) := w_if_ne mC_85 d85_24 (by decide)
theorem d85_27 : decode cX11_loan 27 = .ok (.iconst (-1), 1) := by decide +kernel
theorem k85_27 {d : Nat} {l0 l1 l2 l3 : Option PV} {st : List PV} {M : Mem} {Q : Option PV → Mem → Prop} : WP d 85 27 [l0, l1, l2, l3] (st) M Q = WP d 85 28 [l0, l1, l2, l3] (vi (-1) :: st) M Q := w_iconst mC_85 d85_27 (by decide)
theorem d85_28 : decode cX11_loan 28 = .ok (.ireturn, 1) := by decide +kernel
theorem k85_28 {d : Nat} {l0 l1 l2 l3 : Option PV} {M : Mem} {Q : Option PV → Mem → Prop} {x : Int32} : WP d 85 28 [l0, l1, l2, l3] ([vi x]) M Q = Q (some (vi x)) M := w_iret mC_85 d85_28 rfl
theorem d85_29 : decode cX11_loan 29 = .ok (.aload_n 0, 1) := by decide +kernel
theorem k85_29 {d x : Nat} {l1 l2 l3 : Option PV} {st : List PV} {M : Mem} {Q : Option PV → Mem → Prop} : WP d 85 29 [some (vr x), l1, l2, l3] (st) M Q = WP d 85 30 [some (vr x), l1, l2, l3] (vr x :: st) M Q := w1 mC_85 d85_29 rfl rfl
theorem d85_30 : decode cX11_loan 30 = .ok (.iload_n 1, 1) := by decide +kernel
theorem k85_30 {d : Nat} {x : Int32} {l0 l2 l3 : Option PV} {st : List PV} {M : Mem} {Q : Option PV → Mem → Prop} : WP d 85 30 [l0, some (vi x), l2, l3] (st) M Q = WP d 85 31 [l0, some (vi x), l2, l3] (vi x :: st) M Q := w1 mC_85 d85_30 rfl rfl
theorem d85_31 : decode cX11_loan 31 = .ok (.bipush 10, 2) := by decide +kernel
theorem k85_31 {d : Nat} {l0 l1 l2 l3 : Option PV} {st : List PV} {M : Mem} {Q : Option PV → Mem → Prop} : WP d 85 31 [l0, l1, l2, l3] (st) M Q = WP d 85 33 [l0, l1, l2, l3] (vi 10 :: st) M Q := w_bipush mC_85 d85_31 (by decide)
theorem d85_33 : decode cX11_loan 33 = .ok (.idiv, 1) := by decide +kernel
theorem k85_33 {d : Nat} {l0 l1 l2 l3 : Option PV} {st : List PV} {M : Mem} {Q : Option PV → Mem → Prop} {x y : Int32} (h : y ≠ 0) : WP d 85 33 [l0, l1, l2, l3] (vi y :: vi x :: st) M Q = WP d 85 34 [l0, l1, l2, l3] (vi (x / y) :: st) M Q := w_div mC_85 d85_33 h
theorem d85_34 : decode cX11_loan 34 = .ok (.iload_n 1, 1) := by decide +kernel
theorem k85_34 {d : Nat} {x : Int32} {l0 l2 l3 : Option PV} {st : List PV} {M : Mem} {Q : Option PV → Mem → Prop} : WP d 85 34 [l0, some (vi x), l2, l3] (st) M Q = WP d 85 35 [l0, some (vi x), l2, l3] (vi x :: st) M Q := w1 mC_85 d85_34 rfl rfl
theorem d85_35 : decode cX11_loan 35 = .ok (.bipush 10, 2) := by decide +kernel
theorem k85_35 {d : Nat} {l0 l1 l2 l3 : Option PV} {st : List PV} {M : Mem} {Q : Option PV → Mem → Prop} : WP d 85 35 [l0, l1, l2, l3] (st) M Q = WP d 85 37 [l0, l1, l2, l3] (vi 10 :: st) M Q := w_bipush mC_85 d85_35 (by decide)
theorem d85_37 : decode cX11_loan 37 = .ok (.irem, 1) := by decide +kernel
theorem k85_37 {d : Nat} {l0 l1 l2 l3 : Option PV} {st : List PV} {M : Mem} {Q : Option PV → Mem → Prop} {x y : Int32} (h : y ≠ 0) : WP d 85 37 [l0, l1, l2, l3] (vi y :: vi x :: st) M Q = WP d 85 38 [l0, l1, l2, l3] (vi (x % y) :: st) M Q := w_rem mC_85 d85_37 h
theorem d85_38 : decode cX11_loan 38 = .ok (.iload_n 2, 1) := by decide +kernel
theorem k85_38 {d : Nat} {x : Int32} {l0 l1 l3 : Option PV} {st : List PV} {M : Mem} {Q : Option PV → Mem → Prop} : WP d 85 38 [l0, l1, some (vi x), l3] (st) M Q = WP d 85 39 [l0, l1, some (vi x), l3] (vi x :: st) M Q := w1 mC_85 d85_38 rfl rfl
theorem d85_39 : decode cX11_loan 39 = .ok (.invokevirtual 169, 3) := by decide +kernel
theorem k85_39 {d : Nat} {l0 l1 l2 l3 : Option PV} {st : List PV} {M : Mem} {Q : Option PV → Mem → Prop} {a0 a1 a2 : Int32} {r : Nat} (hl : szL st ≤ 8) (hk : mK M r = 11) : WP (d + 1) 85 39 [l0, l1, l2, l3] (vi a2 :: vi a1 :: vi a0 :: vr r :: st) M Q = WP d 86 0 [some (vr r), some (vi a0), some (vi a1), some (vi a2)] [] M (fun v M' => WP (d + 1) 85 42 [l0, l1, l2, l3] (psh v st) M' Q) := w_callV mC_85 d85_39 (ci := 11) rfl rfl rfl (Nat.le_of_ble_eq_true rfl) (by decide) rfl hl (Or.inl hk)
theorem d85_42 : decode cX11_loan 42 = .ok (.iload_n 3, 1) := by decide +kernel
theorem k85_42 {d : Nat} {x : Int32} {l0 l1 l2 : Option PV} {st : List PV} {M : Mem} {Q : Option PV → Mem → Prop} : WP d 85 42 [l0, l1, l2, some (vi x)] (st) M Q = WP d 85 43 [l0, l1, l2, some (vi x)] (vi x :: st) M Q := w1 mC_85 d85_42 rfl rfl
theorem d85_43 : decode cX11_loan 43 = .ok (.ifCond .ne 14, 3) := by decide +kernel
theorem k85_43 {d : Nat} {l0 l1 l2 l3 : Option PV} {st : List PV} {M : Mem} {Q : Option PV → Mem → Prop} {x : Int32} : WP d 85 43 [l0, l1, l2, l3] (vi x :: st) M Q = (if x = 0 then WP d 85 46 [l0, l1, l2, l3] (st) M Q else WP d 85 57 [l0, l1, l2, l3] (st) M Q) := w_if_ne mC_85 d85_43 (by decide)
theorem d85_46 : decode cX11_loan 46 = .ok (.aload_n 0, 1) := by decide +kernel
theorem k85_46 {d x : Nat} {l1 l2 l3 : Option PV} {st : List PV} {M : Mem} {Q : Option PV → Mem → Prop} : WP d 85 46 [some (vr x), l1, l2, l3] (st) M Q = WP d 85 47 [some (vr x), l1, l2, l3] (vr x :: st) M Q := w1 mC_85 d85_46 rfl rfl
theorem d85_47 : decode cX11_loan 47 = .ok (.iload_n 1, 1) := by decide +kernel
theorem k85_47 {d : Nat} {x : Int32} {l0 l2 l3 : Option PV} {st : List PV} {M : Mem} {Q : Option PV → Mem → Prop} : WP d 85 47 [l0, some (vi x), l2, l3] (st) M Q = WP d 85 48 [l0, some (vi x), l2, l3] (vi x :: st) M Q := w1 mC_85 d85_47 rfl rfl
theorem d85_48 : decode cX11_loan 48 = .ok (.bipush 10, 2) := by decide +kernel
theorem k85_48 {d : Nat} {l0 l1 l2 l3 : Option PV} {st : List PV} {M : Mem} {Q : Option PV → Mem → Prop} : WP d 85 48 [l0, l1, l2, l3] (st) M Q = WP d 85 50 [l0, l1, l2, l3] (vi 10 :: st) M Q := w_bipush mC_85 d85_48 (by decide)
theorem d85_50 : decode cX11_loan 50 = .ok (.irem, 1) := by decide +kernel
theorem k85_50 {d : Nat} {l0 l1 l2 l3 : Option PV} {st : List PV} {M : Mem} {Q : Option PV → Mem → Prop} {x y : Int32} (h : y ≠ 0) : WP d 85 50 [l0, l1, l2, l3] (vi y :: vi x :: st) M Q = WP d 85 51 [l0, l1, l2, l3] (vi (x % y) :: st) M Q := w_rem mC_85 d85_50 h
theorem d85_51 : decode cX11_loan 51 = .ok (.invokevirtual 172, 3) := by decide +kernel
theorem k85_51 {d : Nat} {l0 l1 l2 l3 : Option PV} {st : List PV} {M : Mem} {Q : Option PV → Mem → Prop} {a0 : Int32} {r : Nat} (hl : szL st ≤ 8) (hk : mK M r = 11) : WP (d + 1) 85 51 [l0, l1, l2, l3] (vi a0 :: vr r :: st) M Q = WP d 87 0 [some (vr r), some (vi a0), none, none] [] M (fun v M' => WP (d + 1) 85 54 [l0, l1, l2, l3] (psh v st) M' Q) := w_callV mC_85 d85_51 (ci := 11) rfl rfl rfl (Nat.le_of_ble_eq_true rfl) (by decide) rfl hl (Or.inl hk)
theorem d85_54 : decode cX11_loan 54 = .ok (.goto 11, 3) := by decide +kernel
theorem k85_54 {d : Nat} {l0 l1 l2 l3 : Option PV} {st : List PV} {M : Mem} {Q : Option PV → Mem → Prop} : WP d 85 54 [l0, l1, l2, l3] (st) M Q = WP d 85 65 [l0, l1, l2, l3] (st) M Q := w_goto mC_85 d85_54 (by decide)
theorem d85_57 : decode cX11_loan 57 = .ok (.aload_n 0, 1) := by decide +kernel
theorem k85_57 {d x : Nat} {l1 l2 l3 : Option PV} {st : List PV} {M : Mem} {Q : Option PV → Mem → Prop} : WP d 85 57 [some (vr x), l1, l2, l3] (st) M Q = WP d 85 58 [some (vr x), l1, l2, l3] (vr x :: st) M Q := w1 mC_85 d85_57 rfl rfl
theorem d85_58 : decode cX11_loan 58 = .ok (.iload_n 1, 1) := by decide +kernel
theorem k85_58 {d : Nat} {x : Int32} {l0 l2 l3 : Option PV} {st : List PV} {M : Mem} {Q : Option PV → Mem → Prop} : WP d 85 58 [l0, some (vi x), l2, l3] (st) M Q = WP d 85 59 [l0, some (vi x), l2, l3] (vi x :: st) M Q := w1 mC_85 d85_58 rfl rfl
theorem d85_59 : decode cX11_loan 59 = .ok (.bipush 10, 2) := by decide +kernel
theorem k85_59 {d : Nat} {l0 l1 l2 l3 : Option PV} {st : List PV} {M : Mem} {Q : Option PV → Mem → Prop} : WP d 85 59 [l0, l1, l2, l3] (st) M Q = WP d 85 61 [l0, l1, l2, l3] (vi 10 :: st) M Q := w_bipush mC_85 d85_59 (by decide)
theorem d85_61 : decode cX11_loan 61 = .ok (.irem, 1) := by decide +kernel
theorem k85_61 {d : Nat} {l0 l1 l2 l3 : Option PV} {st : List PV} {M : Mem} {Q : Option PV → Mem → Prop} {x y : Int32} (h : y ≠ 0) : WP d 85 61 [l0, l1, l2, l3] (vi y :: vi x :: st) M Q = WP d 85 62 [l0, l1, l2, l3] (vi (x % y) :: st) M Q := w_rem mC_85 d85_61 h
theorem d85_62 : decode cX11_loan 62 = .ok (.invokevirtual 175, 3) := by decide +kernel
theorem k85_62 {d : Nat} {l0 l1 l2 l3 : Option PV} {st : List PV} {M : Mem} {Q : Option PV → Mem → Prop} {a0 : Int32} {r : Nat} (hl : szL st ≤ 8) (hk : mK M r = 11) : WP (d + 1) 85 62 [l0, l1, l2, l3] (vi a0 :: vr r :: st) M Q = WP d 88 0 [some (vr r), some (vi a0), none] [] M (fun v M' => WP (d + 1) 85 65 [l0, l1, l2, l3] (psh v st) M' Q) := w_callV mC_85 d85_62 (ci := 11) rfl rfl rfl (Nat.le_of_ble_eq_true rfl) (by decide) rfl hl (Or.inl hk)
theorem d85_65 : decode cX11_loan 65 = .ok (.ireturn, 1) := by decide +kernel
theorem k85_65 {d : Nat} {l0 l1 l2 l3 : Option PV} {M : Mem} {Q : Option PV → Mem → Prop} {x : Int32} : WP d 85 65 [l0, l1, l2, l3] ([vi x]) M Q = Q (some (vi x)) M := w_iret mC_85 d85_65 rfl
theorem d86_0 : decode cX11_thinkLoan 0 = .ok (.aload_n 0, 1) := by decide +kernel
theorem k86_0 {d x : Nat} {l1 l2 l3 : Option PV} {st : List PV} {M : Mem} {Q : Option PV → Mem → Prop} : WP d 86 0 [some (vr x), l1, l2, l3] (st) M Q = WP d 86 1 [some (vr x), l1, l2, l3] (vr x :: st) M Q := w1 mC_86 d86_0 rfl rfl
theorem d86_1 : decode cX11_thinkLoan 1 = .ok (.getfield 16, 3) := by decide +kernel
theorem k86_1 {d : Nat} {l0 l1 l2 l3 : Option PV} {st : List PV} {M : Mem} {Q : Option PV → Mem → Prop} {r : Nat} (hk : mK M r = 11) : WP d 86 1 [l0, l1, l2, l3] (vr r :: st) M Q = WP d 86 4 [l0, l1, l2, l3] (vr (mR M r 1) :: st) M Q := w_getr mC_86 d86_1 fE_11_16 rfl (by rw [hk]; rfl)
theorem d86_4 : decode cX11_thinkLoan 4 = .ok (.aload_n 0, 1) := by decide +kernel
theorem k86_4 {d x : Nat} {l1 l2 l3 : Option PV} {st : List PV} {M : Mem} {Q : Option PV → Mem → Prop} : WP d 86 4 [some (vr x), l1, l2, l3] (st) M Q = WP d 86 5 [some (vr x), l1, l2, l3] (vr x :: st) M Q := w1 mC_86 d86_4 rfl rfl
theorem d86_5 : decode cX11_thinkLoan 5 = .ok (.getfield 10, 3) := by decide +kernel
theorem k86_5 {d : Nat} {l0 l1 l2 l3 : Option PV} {st : List PV} {M : Mem} {Q : Option PV → Mem → Prop} {r : Nat} (hk : mK M r = 11) : WP d 86 5 [l0, l1, l2, l3] (vr r :: st) M Q = WP d 86 8 [l0, l1, l2, l3] (vr (mR M r 0) :: st) M Q := w_getr mC_86 d86_5 fE_11_10 rfl (by rw [hk]; rfl)
theorem d86_8 : decode cX11_thinkLoan 8 = .ok (.invokevirtual 151, 3) := by decide +kernel
theorem k86_8 {d : Nat} {l0 l1 l2 l3 : Option PV} {st : List PV} {M : Mem} {Q : Option PV → Mem → Prop} {a0 : Nat} {r : Nat} (hl : szL st ≤ 8) (hk : mK M r = 4) : WP (d + 1) 86 8 [l0, l1, l2, l3] (vr a0 :: vr r :: st) M Q = WP d 31 0 [some (vr r), some (vr a0)] [] M (fun v M' => WP (d + 1) 86 11 [l0, l1, l2, l3] (psh v st) M' Q) := w_callV mC_86 d86_8 (ci := 4) rfl rfl rfl (Nat.le_of_ble_eq_true rfl) (by decide) rfl hl (Or.inl hk)
theorem d86_11 : decode cX11_thinkLoan 11 = .ok (.aload_n 0, 1) := by decide +kernel
theorem k86_11 {d x : Nat} {l1 l2 l3 : Option PV} {st : List PV} {M : Mem} {Q : Option PV → Mem → Prop} : WP d 86 11 [some (vr x), l1, l2, l3] (st) M Q = WP d 86 12 [some (vr x), l1, l2, l3] (vr x :: st) M Q := w1 mC_86 d86_11 rfl rfl
theorem d86_12 : decode cX11_thinkLoan 12 = .ok (.getfield 16, 3) := by decide +kernel
theorem k86_12 {d : Nat} {l0 l1 l2 l3 : Option PV} {st : List PV} {M : Mem} {Q : Option PV → Mem → Prop} {r : Nat} (hk : mK M r = 11) : WP d 86 12 [l0, l1, l2, l3] (vr r :: st) M Q = WP d 86 15 [l0, l1, l2, l3] (vr (mR M r 1) :: st) M Q := w_getr mC_86 d86_12 fE_11_16 rfl (by rw [hk]; rfl)
theorem d86_15 : decode cX11_thinkLoan 15 = .ok (.iload_n 1, 1) := by decide +kernel
theorem k86_15 {d : Nat} {x : Int32} {l0 l2 l3 : Option PV} {st : List PV} {M : Mem} {Q : Option PV → Mem → Prop} : WP d 86 15 [l0, some (vi x), l2, l3] (st) M Q = WP d 86 16 [l0, some (vi x), l2, l3] (vi x :: st) M Q := w1 mC_86 d86_15 rfl rfl
theorem d86_16 : decode cX11_thinkLoan 16 = .ok (.iload_n 2, 1) := by decide +kernel
theorem k86_16 {d : Nat} {x : Int32} {l0 l1 l3 : Option PV} {st : List PV} {M : Mem} {Q : Option PV → Mem → Prop} : WP d 86 16 [l0, l1, some (vi x), l3] (st) M Q = WP d 86 17 [l0, l1, some (vi x), l3] (vi x :: st) M Q := w1 mC_86 d86_16 rfl rfl
theorem d86_17 : decode cX11_thinkLoan 17 = .ok (.iload_n 3, 1) := by decide +kernel
theorem k86_17 {d : Nat} {x : Int32} {l0 l1 l2 : Option PV} {st : List PV} {M : Mem} {Q : Option PV → Mem → Prop} : WP d 86 17 [l0, l1, l2, some (vi x)] (st) M Q = WP d 86 18 [l0, l1, l2, some (vi x)] (vi x :: st) M Q := w1 mC_86 d86_17 rfl rfl
theorem d86_18 : decode cX11_thinkLoan 18 = .ok (.invokevirtual 178, 3) := by decide +kernel
theorem k86_18 {d : Nat} {l0 l1 l2 l3 : Option PV} {st : List PV} {M : Mem} {Q : Option PV → Mem → Prop} {a0 a1 a2 : Int32} {r : Nat} (hl : szL st ≤ 8) (hk : mK M r = 4) : WP (d + 1) 86 18 [l0, l1, l2, l3] (vi a2 :: vi a1 :: vi a0 :: vr r :: st) M Q = WP d 37 0 [some (vr r), some (vi a0), some (vi a1), some (vi a2)] [] M (fun v M' => WP (d + 1) 86 21 [l0, l1, l2, l3] (psh v st) M' Q) := w_callV mC_86 d86_18 (ci := 4) rfl rfl rfl (Nat.le_of_ble_eq_true rfl) (by decide) rfl hl (Or.inl hk)
theorem d86_21 : decode cX11_thinkLoan 21 = .ok (.return_, 1) := by decide +kernel
theorem k86_21 {d : Nat} {l0 l1 l2 l3 : Option PV} {M : Mem} {Q : Option PV → Mem → Prop} : WP d 86 21 [l0, l1, l2, l3] ([]) M Q = Q none M := w_vret mC_86 d86_21 rfl
theorem d87_0 : decode cX11_givenBack 0 = .ok (.bipush (-2), 2) := by decide +kernel
theorem k87_0 {d : Nat} {l0 l1 l2 l3 : Option PV} {st : List PV} {M : Mem} {Q : Option PV → Mem → Prop} : WP d 87 0 [l0, l1, l2, l3] (st) M Q = WP d 87 2 [l0, l1, l2, l3] (vi (-2) :: st) M Q := w_bipush mC_87 d87_0 (by decide)
theorem d87_2 : decode cX11_givenBack 2 = .ok (.istore_n 2, 1) := by decide +kernel
theorem k87_2 {d : Nat} {l0 l1 l2 l3 : Option PV} {st : List PV} {M : Mem} {Q : Option PV → Mem → Prop} {x : Int32} : WP d 87 2 [l0, l1, l2, l3] (vi x :: st) M Q = WP d 87 3 [l0, l1, some (vi x), l3] (st) M Q := w1 mC_87 d87_2 rfl rfl
theorem d87_3 : decode cX11_givenBack 3 = .ok (.iconst 0, 1) := by decide +kernel
theorem k87_3 {d : Nat} {l0 l1 l2 l3 : Option PV} {st : List PV} {M : Mem} {Q : Option PV → Mem → Prop} : WP d 87 3 [l0, l1, l2, l3] (st) M Q = WP d 87 4 [l0, l1, l2, l3] (vi 0 :: st) M Q := w_iconst mC_87 d87_3 (by decide)
theorem d87_4 : decode cX11_givenBack 4 = .ok (.istore_n 3, 1) := by decide +kernel
theorem k87_4 {d : Nat} {l0 l1 l2 l3 : Option PV} {st : List PV} {M : Mem} {Q : Option PV → Mem → Prop} {x : Int32} : WP d 87 4 [l0, l1, l2, l3] (vi x :: st) M Q = WP d 87 5 [l0, l1, l2, some (vi x)] (st) M Q := w1 mC_87 d87_4 rfl rfl
theorem d87_5 : decode cX11_givenBack 5 = .ok (.iload_n 3, 1) := by decide +kernel
theorem k87_5 {d : Nat} {x : Int32} {l0 l1 l2 : Option PV} {st : List PV} {M : Mem} {Q : Option PV → Mem → Prop} : WP d 87 5 [l0, l1, l2, some (vi x)] (st) M Q = WP d 87 6 [l0, l1, l2, some (vi x)] (vi x :: st) M Q := w1 mC_87 d87_5 rfl rfl
theorem d87_6 : decode cX11_givenBack 6 = .ok (.bipush 24, 2) := by decide +kernel
theorem k87_6 {d : Nat} {l0 l1 l2 l3 : Option PV} {st : List PV} {M : Mem} {Q : Option PV → Mem → Prop} : WP d 87 6 [l0, l1, l2, l3] (st) M Q = WP d 87 8 [l0, l1, l2, l3] (vi 24 :: st) M Q := w_bipush mC_87 d87_6 (by decide)
theorem d87_8 : decode cX11_givenBack 8 = .ok (.if_icmp .ge 33, 3) := by decide +kernel
theorem k87_8 {d : Nat} {l0 l1 l2 l3 : Option PV} {st : List PV} {M : Mem} {Q : Option PV → Mem → Prop} {x y : Int32} : WP d 87 8 [l0, l1, l2, l3] (vi y :: vi x :: st) M Q = (if y ≤ x then WP d 87 41 [l0, l1, l2, l3] (st) M Q else WP d 87 11 [l0, l1, l2, l3] (st) M Q) := w_ic_ge mC_87 d87_8 (by decide)
theorem d87_11 : decode cX11_givenBack 11 = .ok (.iload_n 2, 1) := by decide +kernel
theorem k87_11 {d : Nat} {x : Int32} {l0 l1 l3 : Option PV} {st : List PV} {M : Mem} {Q : Option PV → Mem → Prop} : WP d 87 11 [l0, l1, some (vi x), l3] (st) M Q = WP d 87 12 [l0, l1, some (vi x), l3] (vi x :: st) M Q := w1 mC_87 d87_11 rfl rfl
theorem d87_12 : decode cX11_givenBack 12 = .ok (.ifCond .ge 29, 3) := by decide +kernel
theorem k87_12 {d : Nat} {l0 l1 l2 l3 : Option PV} {st : List PV} {M : Mem} {Q : Option PV → Mem → Prop} {x : Int32} : WP d 87 12 [l0, l1, l2, l3] (vi x :: st) M Q = (if 0 ≤ x then WP d 87 41 [l0, l1, l2, l3] (st) M Q else WP d 87 15 [l0, l1, l2, l3] (st) M Q) := w_if_ge mC_87 d87_12 (by decide)
theorem d87_15 : decode cX11_givenBack 15 = .ok (.aload_n 0, 1) := by decide +kernel
theorem k87_15 {d x : Nat} {l1 l2 l3 : Option PV} {st : List PV} {M : Mem} {Q : Option PV → Mem → Prop} : WP d 87 15 [some (vr x), l1, l2, l3] (st) M Q = WP d 87 16 [some (vr x), l1, l2, l3] (vr x :: st) M Q := w1 mC_87 d87_15 rfl rfl
theorem d87_16 : decode cX11_givenBack 16 = .ok (.getfield 16, 3) := by decide +kernel
theorem k87_16 {d : Nat} {l0 l1 l2 l3 : Option PV} {st : List PV} {M : Mem} {Q : Option PV → Mem → Prop} {r : Nat} (hk : mK M r = 11) : WP d 87 16 [l0, l1, l2, l3] (vr r :: st) M Q = WP d 87 19 [l0, l1, l2, l3] (vr (mR M r 1) :: st) M Q := w_getr mC_87 d87_16 fE_11_16 rfl (by rw [hk]; rfl)
theorem d87_19 : decode cX11_givenBack 19 = .ok (.iload_n 1, 1) := by decide +kernel
theorem k87_19 {d : Nat} {x : Int32} {l0 l2 l3 : Option PV} {st : List PV} {M : Mem} {Q : Option PV → Mem → Prop} : WP d 87 19 [l0, some (vi x), l2, l3] (st) M Q = WP d 87 20 [l0, some (vi x), l2, l3] (vi x :: st) M Q := w1 mC_87 d87_19 rfl rfl
theorem d87_20 : decode cX11_givenBack 20 = .ok (.aload_n 0, 1) := by decide +kernel
theorem k87_20 {d x : Nat} {l1 l2 l3 : Option PV} {st : List PV} {M : Mem} {Q : Option PV → Mem → Prop} : WP d 87 20 [some (vr x), l1, l2, l3] (st) M Q = WP d 87 21 [some (vr x), l1, l2, l3] (vr x :: st) M Q := w1 mC_87 d87_20 rfl rfl
theorem d87_21 : decode cX11_givenBack 21 = .ok (.getfield 25, 3) := by decide +kernel
theorem k87_21 {d : Nat} {l0 l1 l2 l3 : Option PV} {st : List PV} {M : Mem} {Q : Option PV → Mem → Prop} {r : Nat} (hk : mK M r = 11) : WP d 87 21 [l0, l1, l2, l3] (vr r :: st) M Q = WP d 87 24 [l0, l1, l2, l3] (vr (mR M r 4) :: st) M Q := w_getr mC_87 d87_21 fE_11_25 rfl (by rw [hk]; rfl)
theorem d87_24 : decode cX11_givenBack 24 = .ok (.invokevirtual 181, 3) := by decide +kernel
theorem k87_24 {d : Nat} {l0 l1 l2 l3 : Option PV} {st : List PV} {M : Mem} {Q : Option PV → Mem → Prop} {a0 : Int32} {a1 : Nat} {r : Nat} (hl : szL st ≤ 8) (hk : mK M r = 4) : WP (d + 1) 87 24 [l0, l1, l2, l3] (vr a1 :: vi a0 :: vr r :: st) M Q = WP d 41 0 [some (vr r), some (vi a0), some (vr a1), none, none, none] [] M (fun v M' => WP (d + 1) 87 27 [l0, l1, l2, l3] (psh v st) M' Q) := w_callV mC_87 d87_24 (ci := 4) rfl rfl rfl (Nat.le_of_ble_eq_true rfl) (by decide) rfl hl (Or.inl hk)
theorem d87_27 : decode cX11_givenBack 27 = .ok (.istore_n 2, 1) := by decide +kernel
theorem k87_27 {d : Nat} {l0 l1 l2 l3 : Option PV} {st : List PV} {M : Mem} {Q : Option PV → Mem → Prop} {x : Int32} : WP d 87 27 [l0, l1, l2, l3] (vi x :: st) M Q = WP d 87 28 [l0, l1, some (vi x), l3] (st) M Q := w1 mC_87 d87_27 rfl rfl
theorem d87_28 : decode cX11_givenBack 28 = .ok (.aload_n 0, 1) := by decide +kernel
theorem k87_28 {d x : Nat} {l1 l2 l3 : Option PV} {st : List PV} {M : Mem} {Q : Option PV → Mem → Prop} : WP d 87 28 [some (vr x), l1, l2, l3] (st) M Q = WP d 87 29 [some (vr x), l1, l2, l3] (vr x :: st) M Q := w1 mC_87 d87_28 rfl rfl
theorem d87_29 : decode cX11_givenBack 29 = .ok (.getfield 16, 3) := by decide +kernel
theorem k87_29 {d : Nat} {l0 l1 l2 l3 : Option PV} {st : List PV} {M : Mem} {Q : Option PV → Mem → Prop} {r : Nat} (hk : mK M r = 11) : WP d 87 29 [l0, l1, l2, l3] (vr r :: st) M Q = WP d 87 32 [l0, l1, l2, l3] (vr (mR M r 1) :: st) M Q := w_getr mC_87 d87_29 fE_11_16 rfl (by rw [hk]; rfl)
theorem d87_32 : decode cX11_givenBack 32 = .ok (.invokevirtual 184, 3) := by decide +kernel
theorem k87_32 {d : Nat} {l0 l1 l2 l3 : Option PV} {st : List PV} {M : Mem} {Q : Option PV → Mem → Prop} {r : Nat} (hl : szL st ≤ 8) (hk : mK M r = 4) : WP (d + 1) 87 32 [l0, l1, l2, l3] (vr r :: st) M Q = WP d 43 0 [some (vr r)] [] M (fun v M' => WP (d + 1) 87 35 [l0, l1, l2, l3] (psh v st) M' Q) := w_callV mC_87 d87_32 (ci := 4) rfl rfl rfl (Nat.le_of_ble_eq_true rfl) (by decide) rfl hl (Or.inl hk)
theorem d87_35 : decode cX11_givenBack 35 = .ok (.iinc 3 1, 3) := by decide +kernel
theorem k87_35 {d : Nat} {x : Int32} {l0 l1 l2 : Option PV} {st : List PV} {M : Mem} {Q : Option PV → Mem → Prop} : WP d 87 35 [l0, l1, l2, some (vi x)] (st) M Q = WP d 87 38 [l0, l1, l2, some (vi (x + 1))] (st) M Q := w_iinc mC_87 d87_35 rfl (by decide) rfl
theorem d87_38 : decode cX11_givenBack 38 = .ok (.goto (-33), 3) := by decide +kernel
theorem k87_38 {d : Nat} {l0 l1 l2 l3 : Option PV} {st : List PV} {M : Mem} {Q : Option PV → Mem → Prop} : WP d 87 38 [l0, l1, l2, l3] (st) M Q = WP d 87 5 [l0, l1, l2, l3] (st) M Q := w_goto mC_87 d87_38 (by decide)
theorem d87_41 : decode cX11_givenBack 41 = .ok (.iload_n 2, 1) := by decide +kernel
theorem k87_41 {d : Nat} {x : Int32} {l0 l1 l3 : Option PV} {st : List PV} {M : Mem} {Q : Option PV → Mem → Prop} : WP d 87 41 [l0, l1, some (vi x), l3] (st) M Q = WP d 87 42 [l0, l1, some (vi x), l3] (vi x :: st) M Q := w1 mC_87 d87_41 rfl rfl
theorem d87_42 : decode cX11_givenBack 42 = .ok (.ifCond .ge 8, 3) := by decide +kernel
theorem k87_42 {d : Nat} {l0 l1 l2 l3 : Option PV} {st : List PV} {M : Mem} {Q : Option PV → Mem → Prop} {x : Int32} : WP d 87 42 [l0, l1, l2, l3] (vi x :: st) M Q = (if 0 ≤ x then WP d 87 50 [l0, l1, l2, l3] (st) M Q else WP d 87 45 [l0, l1, l2, l3] (st) M Q) := w_if_ge mC_87 d87_42 (by decide)
theorem d87_45 : decode cX11_givenBack 45 = .ok (.bipush (-2), 2) := by decide +kernel
theorem k87_45 {d : Nat} {l0 l1 l2 l3 : Option PV} {st : List PV} {M : Mem} {Q : Option PV → Mem → Prop} : WP d 87 45 [l0, l1, l2, l3] (st) M Q = WP d 87 47 [l0, l1, l2, l3] (vi (-2) :: st) M Q := w_bipush mC_87 d87_45 (by decide)
theorem d87_47 : decode cX11_givenBack 47 = .ok (.goto 4, 3) := by decide +kernel
theorem k87_47 {d : Nat} {l0 l1 l2 l3 : Option PV} {st : List PV} {M : Mem} {Q : Option PV → Mem → Prop} : WP d 87 47 [l0, l1, l2, l3] (st) M Q = WP d 87 51 [l0, l1, l2, l3] (st) M Q := w_goto mC_87 d87_47 (by decide)
theorem d87_50 : decode cX11_givenBack 50 = .ok (.iload_n 2, 1) := by decide +kernel
theorem k87_50 {d : Nat} {x : Int32} {l0 l1 l3 : Option PV} {st : List PV} {M : Mem} {Q : Option PV → Mem → Prop} : WP d 87 50 [l0, l1, some (vi x), l3] (st) M Q = WP d 87 51 [l0, l1, some (vi x), l3] (vi x :: st) M Q := w1 mC_87 d87_50 rfl rfl
theorem d87_51 : decode cX11_givenBack 51 = .ok (.ireturn, 1) := by decide +kernel
theorem k87_51 {d : Nat} {l0 l1 l2 l3 : Option PV} {M : Mem} {Q : Option PV → Mem → Prop} {x : Int32} : WP d 87 51 [l0, l1, l2, l3] ([vi x]) M Q = Q (some (vi x)) M := w_iret mC_87 d87_51 rfl
theorem d88_0 : decode cX11_hoursTillBack 0 = .ok (.iconst 1, 1) := by decide +kernel
theorem k88_0 {d : Nat} {l0 l1 l2 : Option PV} {st : List PV} {M : Mem} {Q : Option PV → Mem → Prop} : WP d 88 0 [l0, l1, l2] (st) M Q = WP d 88 1 [l0, l1, l2] (vi 1 :: st) M Q := w_iconst mC_88 d88_0 (by decide)
theorem d88_1 : decode cX11_hoursTillBack 1 = .ok (.istore_n 2, 1) := by decide +kernel
theorem k88_1 {d : Nat} {l0 l1 l2 : Option PV} {st : List PV} {M : Mem} {Q : Option PV → Mem → Prop} {x : Int32} : WP d 88 1 [l0, l1, l2] (vi x :: st) M Q = WP d 88 2 [l0, l1, some (vi x)] (st) M Q := w1 mC_88 d88_1 rfl rfl
theorem d88_2 : decode cX11_hoursTillBack 2 = .ok (.iload_n 2, 1) := by decide +kernel
theorem k88_2 {d : Nat} {x : Int32} {l0 l1 : Option PV} {st : List PV} {M : Mem} {Q : Option PV → Mem → Prop} : WP d 88 2 [l0, l1, some (vi x)] (st) M Q = WP d 88 3 [l0, l1, some (vi x)] (vi x :: st) M Q := w1 mC_88 d88_2 rfl rfl
theorem d88_3 : decode cX11_hoursTillBack 3 = .ok (.bipush 24, 2) := by decide +kernel
theorem k88_3 {d : Nat} {l0 l1 l2 : Option PV} {st : List PV} {M : Mem} {Q : Option PV → Mem → Prop} : WP d 88 3 [l0, l1, l2] (st) M Q = WP d 88 5 [l0, l1, l2] (vi 24 :: st) M Q := w_bipush mC_88 d88_3 (by decide)
theorem d88_5 : decode cX11_hoursTillBack 5 = .ok (.if_icmp .gt 33, 3) := by decide +kernel
theorem k88_5 {d : Nat} {l0 l1 l2 : Option PV} {st : List PV} {M : Mem} {Q : Option PV → Mem → Prop} {x y : Int32} : WP d 88 5 [l0, l1, l2] (vi y :: vi x :: st) M Q = (if y < x then WP d 88 38 [l0, l1, l2] (st) M Q else WP d 88 8 [l0, l1, l2] (st) M Q) := w_ic_gt mC_88 d88_5 (by decide)
theorem d88_8 : decode cX11_hoursTillBack 8 = .ok (.aload_n 0, 1) := by decide +kernel
theorem k88_8 {d x : Nat} {l1 l2 : Option PV} {st : List PV} {M : Mem} {Q : Option PV → Mem → Prop} : WP d 88 8 [some (vr x), l1, l2] (st) M Q = WP d 88 9 [some (vr x), l1, l2] (vr x :: st) M Q := w1 mC_88 d88_8 rfl rfl
theorem d88_9 : decode cX11_hoursTillBack 9 = .ok (.getfield 16, 3) := by decide +kernel
theorem k88_9 {d : Nat} {l0 l1 l2 : Option PV} {st : List PV} {M : Mem} {Q : Option PV → Mem → Prop} {r : Nat} (hk : mK M r = 11) : WP d 88 9 [l0, l1, l2] (vr r :: st) M Q = WP d 88 12 [l0, l1, l2] (vr (mR M r 1) :: st) M Q := w_getr mC_88 d88_9 fE_11_16 rfl (by rw [hk]; rfl)
theorem d88_12 : decode cX11_hoursTillBack 12 = .ok (.iload_n 1, 1) := by decide +kernel
theorem k88_12 {d : Nat} {x : Int32} {l0 l2 : Option PV} {st : List PV} {M : Mem} {Q : Option PV → Mem → Prop} : WP d 88 12 [l0, some (vi x), l2] (st) M Q = WP d 88 13 [l0, some (vi x), l2] (vi x :: st) M Q := w1 mC_88 d88_12 rfl rfl
theorem d88_13 : decode cX11_hoursTillBack 13 = .ok (.aload_n 0, 1) := by decide +kernel
theorem k88_13 {d x : Nat} {l1 l2 : Option PV} {st : List PV} {M : Mem} {Q : Option PV → Mem → Prop} : WP d 88 13 [some (vr x), l1, l2] (st) M Q = WP d 88 14 [some (vr x), l1, l2] (vr x :: st) M Q := w1 mC_88 d88_13 rfl rfl
theorem d88_14 : decode cX11_hoursTillBack 14 = .ok (.getfield 25, 3) := by decide +kernel
theorem k88_14 {d : Nat} {l0 l1 l2 : Option PV} {st : List PV} {M : Mem} {Q : Option PV → Mem → Prop} {r : Nat} (hk : mK M r = 11) : WP d 88 14 [l0, l1, l2] (vr r :: st) M Q = WP d 88 17 [l0, l1, l2] (vr (mR M r 4) :: st) M Q := w_getr mC_88 d88_14 fE_11_25 rfl (by rw [hk]; rfl)
theorem d88_17 : decode cX11_hoursTillBack 17 = .ok (.invokevirtual 181, 3) := by decide +kernel
theorem k88_17 {d : Nat} {l0 l1 l2 : Option PV} {st : List PV} {M : Mem} {Q : Option PV → Mem → Prop} {a0 : Int32} {a1 : Nat} {r : Nat} (hl : szL st ≤ 8) (hk : mK M r = 4) : WP (d + 1) 88 17 [l0, l1, l2] (vr a1 :: vi a0 :: vr r :: st) M Q = WP d 41 0 [some (vr r), some (vi a0), some (vr a1), none, none, none] [] M (fun v M' => WP (d + 1) 88 20 [l0, l1, l2] (psh v st) M' Q) := w_callV mC_88 d88_17 (ci := 4) rfl rfl rfl (Nat.le_of_ble_eq_true rfl) (by decide) rfl hl (Or.inl hk)
theorem d88_20 : decode cX11_hoursTillBack 20 = .ok (.ifCond .lt 5, 3) := by decide +kernel
theorem k88_20 {d : Nat} {l0 l1 l2 : Option PV} {st : List PV} {M : Mem} {Q : Option PV → Mem → Prop} {x : Int32} : WP d 88 20 [l0, l1, l2] (vi x :: st) M Q = (if x < 0 then WP d 88 25 [l0, l1, l2] (st) M Q else WP d 88 23 [l0, l1, l2] (st) M Q) := w_if_lt mC_88 d88_20 (by decide)
theorem d88_23 : decode cX11_hoursTillBack 23 = .ok (.iload_n 2, 1) := by decide +kernel
theorem k88_23 {d : Nat} {x : Int32} {l0 l1 : Option PV} {st : List PV} {M : Mem} {Q : Option PV → Mem → Prop} : WP d 88 23 [l0, l1, some (vi x)] (st) M Q = WP d 88 24 [l0, l1, some (vi x)] (vi x :: st) M Q := w1 mC_88 d88_23 rfl rfl
theorem d88_24 : decode cX11_hoursTillBack 24 = .ok (.ireturn, 1) := by decide +kernel
theorem k88_24 {d : Nat} {l0 l1 l2 : Option PV} {M : Mem} {Q : Option PV → Mem → Prop} {x : Int32} : WP d 88 24 [l0, l1, l2] ([vi x]) M Q = Q (some (vi x)) M := w_iret mC_88 d88_24 rfl
theorem d88_25 : decode cX11_hoursTillBack 25 = .ok (.aload_n 0, 1) := by decide +kernel
theorem k88_25 {d x : Nat} {l1 l2 : Option PV} {st : List PV} {M : Mem} {Q : Option PV → Mem → Prop} : WP d 88 25 [some (vr x), l1, l2] (st) M Q = WP d 88 26 [some (vr x), l1, l2] (vr x :: st) M Q := w1 mC_88 d88_25 rfl rfl
theorem d88_26 : decode cX11_hoursTillBack 26 = .ok (.getfield 16, 3) := by decide +kernel
theorem k88_26 {d : Nat} {l0 l1 l2 : Option PV} {st : List PV} {M : Mem} {Q : Option PV → Mem → Prop} {r : Nat} (hk : mK M r = 11) : WP d 88 26 [l0, l1, l2] (vr r :: st) M Q = WP d 88 29 [l0, l1, l2] (vr (mR M r 1) :: st) M Q := w_getr mC_88 d88_26 fE_11_16 rfl (by rw [hk]; rfl)
theorem d88_29 : decode cX11_hoursTillBack 29 = .ok (.invokevirtual 184, 3) := by decide +kernel
theorem k88_29 {d : Nat} {l0 l1 l2 : Option PV} {st : List PV} {M : Mem} {Q : Option PV → Mem → Prop} {r : Nat} (hl : szL st ≤ 8) (hk : mK M r = 4) : WP (d + 1) 88 29 [l0, l1, l2] (vr r :: st) M Q = WP d 43 0 [some (vr r)] [] M (fun v M' => WP (d + 1) 88 32 [l0, l1, l2] (psh v st) M' Q) := w_callV mC_88 d88_29 (ci := 4) rfl rfl rfl (Nat.le_of_ble_eq_true rfl) (by decide) rfl hl (Or.inl hk)
theorem d88_32 : decode cX11_hoursTillBack 32 = .ok (.iinc 2 1, 3) := by decide +kernel
theorem k88_32 {d : Nat} {x : Int32} {l0 l1 : Option PV} {st : List PV} {M : Mem} {Q : Option PV → Mem → Prop} : WP d 88 32 [l0, l1, some (vi x)] (st) M Q = WP d 88 35 [l0, l1, some (vi (x + 1))] (st) M Q := w_iinc mC_88 d88_32 rfl (by decide) rfl
theorem d88_35 : decode cX11_hoursTillBack 35 = .ok (.goto (-33), 3) := by decide +kernel
theorem k88_35 {d : Nat} {l0 l1 l2 : Option PV} {st : List PV} {M : Mem} {Q : Option PV → Mem → Prop} : WP d 88 35 [l0, l1, l2] (st) M Q = WP d 88 2 [l0, l1, l2] (st) M Q := w_goto mC_88 d88_35 (by decide)
theorem d88_38 : decode cX11_hoursTillBack 38 = .ok (.bipush (-2), 2) := by decide +kernel
theorem k88_38 {d : Nat} {l0 l1 l2 : Option PV} {st : List PV} {M : Mem} {Q : Option PV → Mem → Prop} : WP d 88 38 [l0, l1, l2] (st) M Q = WP d 88 40 [l0, l1, l2] (vi (-2) :: st) M Q := w_bipush mC_88 d88_38 (by decide)
theorem d88_40 : decode cX11_hoursTillBack 40 = .ok (.ireturn, 1) := by decide +kernel
theorem k88_40 {d : Nat} {l0 l1 l2 : Option PV} {M : Mem} {Q : Option PV → Mem → Prop} {x : Int32} : WP d 88 40 [l0, l1, l2] ([vi x]) M Q = Q (some (vi x)) M := w_iret mC_88 d88_40 rfl
theorem d89_0 : decode cX11_best 0 = .ok (.aload_n 0, 1) := by decide +kernel
theorem k89_0 {d x : Nat} {l1 l2 l3 l4 l5 l6 l7 : Option PV} {st : List PV} {M : Mem} {Q : Option PV → Mem → Prop} : WP d 89 0 [some (vr x), l1, l2, l3, l4, l5, l6, l7] (st) M Q = WP d 89 1 [some (vr x), l1, l2, l3, l4, l5, l6, l7] (vr x :: st) M Q := w1 mC_89 d89_0 rfl rfl
theorem d89_1 : decode cX11_best 1 = .ok (.getfield 10, 3) := by decide +kernel
theorem k89_1 {d : Nat} {l0 l1 l2 l3 l4 l5 l6 l7 : Option PV} {st : List PV} {M : Mem} {Q : Option PV → Mem → Prop} {r : Nat} (hk : mK M r = 11) : WP d 89 1 [l0, l1, l2, l3, l4, l5, l6, l7] (vr r :: st) M Q = WP d 89 4 [l0, l1, l2, l3, l4, l5, l6, l7] (vr (mR M r 0) :: st) M Q := w_getr mC_89 d89_1 fE_11_10 rfl (by rw [hk]; rfl)
theorem d89_4 : decode cX11_best 4 = .ok (.iload_n 1, 1) := by decide +kernel
theorem k89_4 {d : Nat} {x : Int32} {l0 l2 l3 l4 l5 l6 l7 : Option PV} {st : List PV} {M : Mem} {Q : Option PV → Mem → Prop} : WP d 89 4 [l0, some (vi x), l2, l3, l4, l5, l6, l7] (st) M Q = WP d 89 5 [l0, some (vi x), l2, l3, l4, l5, l6, l7] (vi x :: st) M Q := w1 mC_89 d89_4 rfl rfl
theorem d89_5 : decode cX11_best 5 = .ok (.invokevirtual 117, 3) := by decide +kernel
theorem k89_5 {d : Nat} {l0 l1 l2 l3 l4 l5 l6 l7 : Option PV} {st : List PV} {M : Mem} {Q : Option PV → Mem → Prop} {a0 : Int32} {r : Nat} (hl : szL st ≤ 8) (hk : mK M r = 4) : WP (d + 1) 89 5 [l0, l1, l2, l3, l4, l5, l6, l7] (vi a0 :: vr r :: st) M Q = WP d 24 0 [some (vr r), some (vi a0)] [] M (fun v M' => WP (d + 1) 89 8 [l0, l1, l2, l3, l4, l5, l6, l7] (psh v st) M' Q) := w_callV mC_89 d89_5 (ci := 4) rfl rfl rfl (Nat.le_of_ble_eq_true rfl) (by decide) rfl hl (Or.inl hk)
theorem d89_8 : decode cX11_best 8 = .ok (.ifCond .eq 22, 3) := by decide +kernel
theorem k89_8 {d : Nat} {l0 l1 l2 l3 l4 l5 l6 l7 : Option PV} {st : List PV} {M : Mem} {Q : Option PV → Mem → Prop} {x : Int32} : WP d 89 8 [l0, l1, l2, l3, l4, l5, l6, l7] (vi x :: st) M Q = (if x = 0 then WP d 89 30 [l0, l1, l2, l3, l4, l5, l6, l7] (st) M Q else WP d 89 11 [l0, l1, l2, l3, l4, l5, l6, l7] (st) M Q) := w_if_eq mC_89 d89_8 (by decide)
theorem d89_11 : decode cX11_best 11 = .ok (.iload_n 2, 1) := by decide +kernel
theorem k89_11 {d : Nat} {x : Int32} {l0 l1 l3 l4 l5 l6 l7 : Option PV} {st : List PV} {M : Mem} {Q : Option PV → Mem → Prop} : WP d 89 11 [l0, l1, some (vi x), l3, l4, l5, l6, l7] (st) M Q = WP d 89 12 [l0, l1, some (vi x), l3, l4, l5, l6, l7] (vi x :: st) M Q := w1 mC_89 d89_11 rfl rfl
theorem d89_12 : decode cX11_best 12 = .ok (.iconst 1, 1) := by decide +kernel
theorem k89_12 {d : Nat} {l0 l1 l2 l3 l4 l5 l6 l7 : Option PV} {st : List PV} {M : Mem} {Q : Option PV → Mem → Prop} : WP d 89 12 [l0, l1, l2, l3, l4, l5, l6, l7] (st) M Q = WP d 89 13 [l0, l1, l2, l3, l4, l5, l6, l7] (vi 1 :: st) M Q := w_iconst mC_89 d89_12 (by decide)
theorem d89_13 : decode cX11_best 13 = .ok (.bipush 99, 2) := by decide +kernel
theorem k89_13 {d : Nat} {l0 l1 l2 l3 l4 l5 l6 l7 : Option PV} {st : List PV} {M : Mem} {Q : Option PV → Mem → Prop} : WP d 89 13 [l0, l1, l2, l3, l4, l5, l6, l7] (st) M Q = WP d 89 15 [l0, l1, l2, l3, l4, l5, l6, l7] (vi 99 :: st) M Q := w_bipush mC_89 d89_13 (by decide)
theorem d89_15 : decode cX11_best 15 = .ok (.invokestatic 79, 3) := by decide +kernel
theorem k89_15 {d : Nat} {l0 l1 l2 l3 l4 l5 l6 l7 : Option PV} {st : List PV} {M : Mem} {Q : Option PV → Mem → Prop} {a0 a1 a2 : Int32} (hl : szL st ≤ 8) : WP (d + 1) 89 15 [l0, l1, l2, l3, l4, l5, l6, l7] (vi a2 :: vi a1 :: vi a0 :: st) M Q = WP d 141 0 [some (vi a0), some (vi a1), some (vi a2)] [] M (fun v M' => WP (d + 1) 89 18 [l0, l1, l2, l3, l4, l5, l6, l7] (psh v st) M' Q) := w_callS mC_89 d89_15 rfl rfl (Nat.le_of_ble_eq_true rfl) (by decide) rfl hl
theorem d89_18 : decode cX11_best 18 = .ok (.ifCond .eq 12, 3) := by decide +kernel
theorem k89_18 {d : Nat} {l0 l1 l2 l3 l4 l5 l6 l7 : Option PV} {st : List PV} {M : Mem} {Q : Option PV → Mem → Prop} {x : Int32} : WP d 89 18 [l0, l1, l2, l3, l4, l5, l6, l7] (vi x :: st) M Q = (if x = 0 then WP d 89 30 [l0, l1, l2, l3, l4, l5, l6, l7] (st) M Q else WP d 89 21 [l0, l1, l2, l3, l4, l5, l6, l7] (st) M Q) := w_if_eq mC_89 d89_18 (by decide)
theorem d89_21 : decode cX11_best 21 = .ok (.iload_n 3, 1) := by decide +kernel
theorem k89_21 {d : Nat} {x : Int32} {l0 l1 l2 l4 l5 l6 l7 : Option PV} {st : List PV} {M : Mem} {Q : Option PV → Mem → Prop} : WP d 89 21 [l0, l1, l2, some (vi x), l4, l5, l6, l7] (st) M Q = WP d 89 22 [l0, l1, l2, some (vi x), l4, l5, l6, l7] (vi x :: st) M Q := w1 mC_89 d89_21 rfl rfl
theorem d89_22 : decode cX11_best 22 = .ok (.iconst 0, 1) := by decide +kernel
theorem k89_22 {d : Nat} {l0 l1 l2 l3 l4 l5 l6 l7 : Option PV} {st : List PV} {M : Mem} {Q : Option PV → Mem → Prop} : WP d 89 22 [l0, l1, l2, l3, l4, l5, l6, l7] (st) M Q = WP d 89 23 [l0, l1, l2, l3, l4, l5, l6, l7] (vi 0 :: st) M Q := w_iconst mC_89 d89_22 (by decide)
theorem d89_23 : decode cX11_best 23 = .ok (.iconst 1, 1) := by decide +kernel
theorem k89_23 {d : Nat} {l0 l1 l2 l3 l4 l5 l6 l7 : Option PV} {st : List PV} {M : Mem} {Q : Option PV → Mem → Prop} : WP d 89 23 [l0, l1, l2, l3, l4, l5, l6, l7] (st) M Q = WP d 89 24 [l0, l1, l2, l3, l4, l5, l6, l7] (vi 1 :: st) M Q := w_iconst mC_89 d89_23 (by decide)
theorem d89_24 : decode cX11_best 24 = .ok (.invokestatic 79, 3) := by decide +kernel
theorem k89_24 {d : Nat} {l0 l1 l2 l3 l4 l5 l6 l7 : Option PV} {st : List PV} {M : Mem} {Q : Option PV → Mem → Prop} {a0 a1 a2 : Int32} (hl : szL st ≤ 8) : WP (d + 1) 89 24 [l0, l1, l2, l3, l4, l5, l6, l7] (vi a2 :: vi a1 :: vi a0 :: st) M Q = WP d 141 0 [some (vi a0), some (vi a1), some (vi a2)] [] M (fun v M' => WP (d + 1) 89 27 [l0, l1, l2, l3, l4, l5, l6, l7] (psh v st) M' Q) := w_callS mC_89 d89_24 rfl rfl (Nat.le_of_ble_eq_true rfl) (by decide) rfl hl
theorem d89_27 : decode cX11_best 27 = .ok (.ifCond .ne 5, 3) := by decide +kernel
theorem k89_27 {d : Nat} {l0 l1 l2 l3 l4 l5 l6 l7 : Option PV} {st : List PV} {M : Mem} {Q : Option PV → Mem → Prop} {x : Int32} : WP d 89 27 [l0, l1, l2, l3, l4, l5, l6, l7] (vi x :: st) M Q = (if x = 0 then WP d 89 30 [l0, l1, l2, l3, l4, l5, l6, l7] (st) M Q else WP d 89 32 [l0, l1, l2, l3, l4, l5, l6, l7] (st) M Q) := w_if_ne mC_89 d89_27 (by decide)
theorem d89_30 : decode cX11_best 30 = .ok (.iconst (-1), 1) := by decide +kernel
theorem k89_30 {d : Nat} {l0 l1 l2 l3 l4 l5 l6 l7 : Option PV} {st : List PV} {M : Mem} {Q : Option PV → Mem → Prop} : WP d 89 30 [l0, l1, l2, l3, l4, l5, l6, l7] (st) M Q = WP d 89 31 [l0, l1, l2, l3, l4, l5, l6, l7] (vi (-1) :: st) M Q := w_iconst mC_89 d89_30 (by decide)
theorem d89_31 : decode cX11_best 31 = .ok (.ireturn, 1) := by decide +kernel
theorem k89_31 {d : Nat} {l0 l1 l2 l3 l4 l5 l6 l7 : Option PV} {M : Mem} {Q : Option PV → Mem → Prop} {x : Int32} : WP d 89 31 [l0, l1, l2, l3, l4, l5, l6, l7] ([vi x]) M Q = Q (some (vi x)) M := w_iret mC_89 d89_31 rfl
theorem d89_32 : decode cX11_best 32 = .ok (.bipush (-2), 2) := by decide +kernel
theorem k89_32 {d : Nat} {l0 l1 l2 l3 l4 l5 l6 l7 : Option PV} {st : List PV} {M : Mem} {Q : Option PV → Mem → Prop} : WP d 89 32 [l0, l1, l2, l3, l4, l5, l6, l7] (st) M Q = WP d 89 34 [l0, l1, l2, l3, l4, l5, l6, l7] (vi (-2) :: st) M Q := w_bipush mC_89 d89_32 (by decide)
theorem d89_34 : decode cX11_best 34 = .ok (.istore 4, 2) := by decide +kernel
theorem k89_34 {d : Nat} {l0 l1 l2 l3 l4 l5 l6 l7 : Option PV} {st : List PV} {M : Mem} {Q : Option PV → Mem → Prop} {x : Int32} : WP d 89 34 [l0, l1, l2, l3, l4, l5, l6, l7] (vi x :: st) M Q = WP d 89 36 [l0, l1, l2, l3, some (vi x), l5, l6, l7] (st) M Q := w1 mC_89 d89_34 rfl rfl
theorem d89_36 : decode cX11_best 36 = .ok (.bipush (-2), 2) := by decide +kernel
theorem k89_36 {d : Nat} {l0 l1 l2 l3 l4 l5 l6 l7 : Option PV} {st : List PV} {M : Mem} {Q : Option PV → Mem → Prop} : WP d 89 36 [l0, l1, l2, l3, l4, l5, l6, l7] (st) M Q = WP d 89 38 [l0, l1, l2, l3, l4, l5, l6, l7] (vi (-2) :: st) M Q := w_bipush mC_89 d89_36 (by decide)
theorem d89_38 : decode cX11_best 38 = .ok (.istore 5, 2) := by decide +kernel
theorem k89_38 {d : Nat} {l0 l1 l2 l3 l4 l5 l6 l7 : Option PV} {st : List PV} {M : Mem} {Q : Option PV → Mem → Prop} {x : Int32} : WP d 89 38 [l0, l1, l2, l3, l4, l5, l6, l7] (vi x :: st) M Q = WP d 89 40 [l0, l1, l2, l3, l4, some (vi x), l6, l7] (st) M Q := w1 mC_89 d89_38 rfl rfl
theorem d89_40 : decode cX11_best 40 = .ok (.iconst 0, 1) := by decide +kernel
theorem k89_40 {d : Nat} {l0 l1 l2 l3 l4 l5 l6 l7 : Option PV} {st : List PV} {M : Mem} {Q : Option PV → Mem → Prop} : WP d 89 40 [l0, l1, l2, l3, l4, l5, l6, l7] (st) M Q = WP d 89 41 [l0, l1, l2, l3, l4, l5, l6, l7] (vi 0 :: st) M Q := w_iconst mC_89 d89_40 (by decide)
theorem d89_41 : decode cX11_best 41 = .ok (.istore 6, 2) := by decide +kernel
theorem k89_41 {d : Nat} {l0 l1 l2 l3 l4 l5 l6 l7 : Option PV} {st : List PV} {M : Mem} {Q : Option PV → Mem → Prop} {x : Int32} : WP d 89 41 [l0, l1, l2, l3, l4, l5, l6, l7] (vi x :: st) M Q = WP d 89 43 [l0, l1, l2, l3, l4, l5, some (vi x), l7] (st) M Q := w1 mC_89 d89_41 rfl rfl
theorem d89_43 : decode cX11_best 43 = .ok (.iload 6, 2) := by decide +kernel
theorem k89_43 {d : Nat} {x : Int32} {l0 l1 l2 l3 l4 l5 l7 : Option PV} {st : List PV} {M : Mem} {Q : Option PV → Mem → Prop} : WP d 89 43 [l0, l1, l2, l3, l4, l5, some (vi x), l7] (st) M Q = WP d 89 45 [l0, l1, l2, l3, l4, l5, some (vi x), l7] (vi x :: st) M Q := w1 mC_89 d89_43 rfl rfl
theorem d89_45 : decode cX11_best 45 = .ok (.aload_n 0, 1) := by decide +kernel
theorem k89_45 {d x : Nat} {l1 l2 l3 l4 l5 l6 l7 : Option PV} {st : List PV} {M : Mem} {Q : Option PV → Mem → Prop} : WP d 89 45 [some (vr x), l1, l2, l3, l4, l5, l6, l7] (st) M Q = WP d 89 46 [some (vr x), l1, l2, l3, l4, l5, l6, l7] (vr x :: st) M Q := w1 mC_89 d89_45 rfl rfl
theorem d89_46 : decode cX11_best 46 = .ok (.getfield 10, 3) := by decide +kernel
theorem k89_46 {d : Nat} {l0 l1 l2 l3 l4 l5 l6 l7 : Option PV} {st : List PV} {M : Mem} {Q : Option PV → Mem → Prop} {r : Nat} (hk : mK M r = 11) : WP d 89 46 [l0, l1, l2, l3, l4, l5, l6, l7] (vr r :: st) M Q = WP d 89 49 [l0, l1, l2, l3, l4, l5, l6, l7] (vr (mR M r 0) :: st) M Q := w_getr mC_89 d89_46 fE_11_10 rfl (by rw [hk]; rfl)
theorem d89_49 : decode cX11_best 49 = .ok (.getfield 187, 3) := by decide +kernel
theorem k89_49 {d : Nat} {l0 l1 l2 l3 l4 l5 l6 l7 : Option PV} {st : List PV} {M : Mem} {Q : Option PV → Mem → Prop} {r : Nat} (hk : mK M r = 4) : WP d 89 49 [l0, l1, l2, l3, l4, l5, l6, l7] (vr r :: st) M Q = WP d 89 52 [l0, l1, l2, l3, l4, l5, l6, l7] (vi (mI M r 8) :: st) M Q := w_get mC_89 d89_49 fE_11_187 rfl (by rw [hk]; rfl)
theorem d89_52 : decode cX11_best 52 = .ok (.if_icmp .ge 40, 3) := by decide +kernel
theorem k89_52 {d : Nat} {l0 l1 l2 l3 l4 l5 l6 l7 : Option PV} {st : List PV} {M : Mem} {Q : Option PV → Mem → Prop} {x y : Int32} : WP d 89 52 [l0, l1, l2, l3, l4, l5, l6, l7] (vi y :: vi x :: st) M Q = (if y ≤ x then WP d 89 92 [l0, l1, l2, l3, l4, l5, l6, l7] (st) M Q else WP d 89 55 [l0, l1, l2, l3, l4, l5, l6, l7] (st) M Q) := w_ic_ge mC_89 d89_52 (by decide)
theorem d89_55 : decode cX11_best 55 = .ok (.aload_n 0, 1) := by decide +kernel
theorem k89_55 {d x : Nat} {l1 l2 l3 l4 l5 l6 l7 : Option PV} {st : List PV} {M : Mem} {Q : Option PV → Mem → Prop} : WP d 89 55 [some (vr x), l1, l2, l3, l4, l5, l6, l7] (st) M Q = WP d 89 56 [some (vr x), l1, l2, l3, l4, l5, l6, l7] (vr x :: st) M Q := w1 mC_89 d89_55 rfl rfl
theorem d89_56 : decode cX11_best 56 = .ok (.iload_n 1, 1) := by decide +kernel
theorem k89_56 {d : Nat} {x : Int32} {l0 l2 l3 l4 l5 l6 l7 : Option PV} {st : List PV} {M : Mem} {Q : Option PV → Mem → Prop} : WP d 89 56 [l0, some (vi x), l2, l3, l4, l5, l6, l7] (st) M Q = WP d 89 57 [l0, some (vi x), l2, l3, l4, l5, l6, l7] (vi x :: st) M Q := w1 mC_89 d89_56 rfl rfl
theorem d89_57 : decode cX11_best 57 = .ok (.iload 6, 2) := by decide +kernel
theorem k89_57 {d : Nat} {x : Int32} {l0 l1 l2 l3 l4 l5 l7 : Option PV} {st : List PV} {M : Mem} {Q : Option PV → Mem → Prop} : WP d 89 57 [l0, l1, l2, l3, l4, l5, some (vi x), l7] (st) M Q = WP d 89 59 [l0, l1, l2, l3, l4, l5, some (vi x), l7] (vi x :: st) M Q := w1 mC_89 d89_57 rfl rfl
theorem d89_59 : decode cX11_best 59 = .ok (.iload_n 2, 1) := by decide +kernel
theorem k89_59 {d : Nat} {x : Int32} {l0 l1 l3 l4 l5 l6 l7 : Option PV} {st : List PV} {M : Mem} {Q : Option PV → Mem → Prop} : WP d 89 59 [l0, l1, some (vi x), l3, l4, l5, l6, l7] (st) M Q = WP d 89 60 [l0, l1, some (vi x), l3, l4, l5, l6, l7] (vi x :: st) M Q := w1 mC_89 d89_59 rfl rfl
theorem d89_60 : decode cX11_best 60 = .ok (.invokevirtual 169, 3) := by decide +kernel
theorem k89_60 {d : Nat} {l0 l1 l2 l3 l4 l5 l6 l7 : Option PV} {st : List PV} {M : Mem} {Q : Option PV → Mem → Prop} {a0 a1 a2 : Int32} {r : Nat} (hl : szL st ≤ 8) (hk : mK M r = 11) : WP (d + 1) 89 60 [l0, l1, l2, l3, l4, l5, l6, l7] (vi a2 :: vi a1 :: vi a0 :: vr r :: st) M Q = WP d 86 0 [some (vr r), some (vi a0), some (vi a1), some (vi a2)] [] M (fun v M' => WP (d + 1) 89 63 [l0, l1, l2, l3, l4, l5, l6, l7] (psh v st) M' Q) := w_callV mC_89 d89_60 (ci := 11) rfl rfl rfl (Nat.le_of_ble_eq_true rfl) (by decide) rfl hl (Or.inl hk)
theorem d89_63 : decode cX11_best 63 = .ok (.aload_n 0, 1) := by decide +kernel
theorem k89_63 {d x : Nat} {l1 l2 l3 l4 l5 l6 l7 : Option PV} {st : List PV} {M : Mem} {Q : Option PV → Mem → Prop} : WP d 89 63 [some (vr x), l1, l2, l3, l4, l5, l6, l7] (st) M Q = WP d 89 64 [some (vr x), l1, l2, l3, l4, l5, l6, l7] (vr x :: st) M Q := w1 mC_89 d89_63 rfl rfl
theorem d89_64 : decode cX11_best 64 = .ok (.iload 6, 2) := by decide +kernel
theorem k89_64 {d : Nat} {x : Int32} {l0 l1 l2 l3 l4 l5 l7 : Option PV} {st : List PV} {M : Mem} {Q : Option PV → Mem → Prop} : WP d 89 64 [l0, l1, l2, l3, l4, l5, some (vi x), l7] (st) M Q = WP d 89 66 [l0, l1, l2, l3, l4, l5, some (vi x), l7] (vi x :: st) M Q := w1 mC_89 d89_64 rfl rfl
theorem d89_66 : decode cX11_best 66 = .ok (.invokevirtual 172, 3) := by decide +kernel
theorem k89_66 {d : Nat} {l0 l1 l2 l3 l4 l5 l6 l7 : Option PV} {st : List PV} {M : Mem} {Q : Option PV → Mem → Prop} {a0 : Int32} {r : Nat} (hl : szL st ≤ 8) (hk : mK M r = 11) : WP (d + 1) 89 66 [l0, l1, l2, l3, l4, l5, l6, l7] (vi a0 :: vr r :: st) M Q = WP d 87 0 [some (vr r), some (vi a0), none, none] [] M (fun v M' => WP (d + 1) 89 69 [l0, l1, l2, l3, l4, l5, l6, l7] (psh v st) M' Q) := w_callV mC_89 d89_66 (ci := 11) rfl rfl rfl (Nat.le_of_ble_eq_true rfl) (by decide) rfl hl (Or.inl hk)
theorem d89_69 : decode cX11_best 69 = .ok (.istore 7, 2) := by decide +kernel
theorem k89_69 {d : Nat} {l0 l1 l2 l3 l4 l5 l6 l7 : Option PV} {st : List PV} {M : Mem} {Q : Option PV → Mem → Prop} {x : Int32} : WP d 89 69 [l0, l1, l2, l3, l4, l5, l6, l7] (vi x :: st) M Q = WP d 89 71 [l0, l1, l2, l3, l4, l5, l6, some (vi x)] (st) M Q := w1 mC_89 d89_69 rfl rfl
theorem d89_71 : decode cX11_best 71 = .ok (.iload 7, 2) := by decide +kernel
theorem k89_71 {d : Nat} {x : Int32} {l0 l1 l2 l3 l4 l5 l6 : Option PV} {st : List PV} {M : Mem} {Q : Option PV → Mem → Prop} : WP d 89 71 [l0, l1, l2, l3, l4, l5, l6, some (vi x)] (st) M Q = WP d 89 73 [l0, l1, l2, l3, l4, l5, l6, some (vi x)] (vi x :: st) M Q := w1 mC_89 d89_71 rfl rfl
theorem d89_73 : decode cX11_best 73 = .ok (.iload 5, 2) := by decide +kernel
theorem k89_73 {d : Nat} {x : Int32} {l0 l1 l2 l3 l4 l6 l7 : Option PV} {st : List PV} {M : Mem} {Q : Option PV → Mem → Prop} : WP d 89 73 [l0, l1, l2, l3, l4, some (vi x), l6, l7] (st) M Q = WP d 89 75 [l0, l1, l2, l3, l4, some (vi x), l6, l7] (vi x :: st) M Q := w1 mC_89 d89_73 rfl rfl
theorem d89_75 : decode cX11_best 75 = .ok (.if_icmp .le 11, 3) := by decide +kernel
theorem k89_75 {d : Nat} {l0 l1 l2 l3 l4 l5 l6 l7 : Option PV} {st : List PV} {M : Mem} {Q : Option PV → Mem → Prop} {x y : Int32} : WP d 89 75 [l0, l1, l2, l3, l4, l5, l6, l7] (vi y :: vi x :: st) M Q = (if x ≤ y then WP d 89 86 [l0, l1, l2, l3, l4, l5, l6, l7] (st) M Q else WP d 89 78 [l0, l1, l2, l3, l4, l5, l6, l7] (st) M Q) := w_ic_le mC_89 d89_75 (by decide)
theorem d89_78 : decode cX11_best 78 = .ok (.iload 6, 2) := by decide +kernel
theorem k89_78 {d : Nat} {x : Int32} {l0 l1 l2 l3 l4 l5 l7 : Option PV} {st : List PV} {M : Mem} {Q : Option PV → Mem → Prop} : WP d 89 78 [l0, l1, l2, l3, l4, l5, some (vi x), l7] (st) M Q = WP d 89 80 [l0, l1, l2, l3, l4, l5, some (vi x), l7] (vi x :: st) M Q := w1 mC_89 d89_78 rfl rfl
theorem d89_80 : decode cX11_best 80 = .ok (.istore 4, 2) := by decide +kernel
theorem k89_80 {d : Nat} {l0 l1 l2 l3 l4 l5 l6 l7 : Option PV} {st : List PV} {M : Mem} {Q : Option PV → Mem → Prop} {x : Int32} : WP d 89 80 [l0, l1, l2, l3, l4, l5, l6, l7] (vi x :: st) M Q = WP d 89 82 [l0, l1, l2, l3, some (vi x), l5, l6, l7] (st) M Q := w1 mC_89 d89_80 rfl rfl
theorem d89_82 : decode cX11_best 82 = .ok (.iload 7, 2) := by decide +kernel
theorem k89_82 {d : Nat} {x : Int32} {l0 l1 l2 l3 l4 l5 l6 : Option PV} {st : List PV} {M : Mem} {Q : Option PV → Mem → Prop} : WP d 89 82 [l0, l1, l2, l3, l4, l5, l6, some (vi x)] (st) M Q = WP d 89 84 [l0, l1, l2, l3, l4, l5, l6, some (vi x)] (vi x :: st) M Q := w1 mC_89 d89_82 rfl rfl
theorem d89_84 : decode cX11_best 84 = .ok (.istore 5, 2) := by decide +kernel
theorem k89_84 {d : Nat} {l0 l1 l2 l3 l4 l5 l6 l7 : Option PV} {st : List PV} {M : Mem} {Q : Option PV → Mem → Prop} {x : Int32} : WP d 89 84 [l0, l1, l2, l3, l4, l5, l6, l7] (vi x :: st) M Q = WP d 89 86 [l0, l1, l2, l3, l4, some (vi x), l6, l7] (st) M Q := w1 mC_89 d89_84 rfl rfl
theorem d89_86 : decode cX11_best 86 = .ok (.iinc 6 1, 3) := by decide +kernel
theorem k89_86 {d : Nat} {x : Int32} {l0 l1 l2 l3 l4 l5 l7 : Option PV} {st : List PV} {M : Mem} {Q : Option PV → Mem → Prop} : WP d 89 86 [l0, l1, l2, l3, l4, l5, some (vi x), l7] (st) M Q = WP d 89 89 [l0, l1, l2, l3, l4, l5, some (vi (x + 1)), l7] (st) M Q := w_iinc mC_89 d89_86 rfl (by decide) rfl
theorem d89_89 : decode cX11_best 89 = .ok (.goto (-46), 3) := by decide +kernel
theorem k89_89 {d : Nat} {l0 l1 l2 l3 l4 l5 l6 l7 : Option PV} {st : List PV} {M : Mem} {Q : Option PV → Mem → Prop} : WP d 89 89 [l0, l1, l2, l3, l4, l5, l6, l7] (st) M Q = WP d 89 43 [l0, l1, l2, l3, l4, l5, l6, l7] (st) M Q := w_goto mC_89 d89_89 (by decide)
theorem d89_92 : decode cX11_best 92 = .ok (.iload_n 3, 1) := by decide +kernel
theorem k89_92 {d : Nat} {x : Int32} {l0 l1 l2 l4 l5 l6 l7 : Option PV} {st : List PV} {M : Mem} {Q : Option PV → Mem → Prop} : WP d 89 92 [l0, l1, l2, some (vi x), l4, l5, l6, l7] (st) M Q = WP d 89 93 [l0, l1, l2, some (vi x), l4, l5, l6, l7] (vi x :: st) M Q := w1 mC_89 d89_92 rfl rfl
theorem d89_93 : decode cX11_best 93 = .ok (.ifCond .ne 8, 3) := by decide +kernel
theorem k89_93 {d : Nat} {l0 l1 l2 l3 l4 l5 l6 l7 : Option PV} {st : List PV} {M : Mem} {Q : Option PV → Mem → Prop} {x : Int32} : WP d 89 93 [l0, l1, l2, l3, l4, l5, l6, l7] (vi x :: st) M Q = (if x = 0 then WP d 89 96 [l0, l1, l2, l3, l4, l5, l6, l7] (st) M Q else WP d 89 101 [l0, l1, l2, l3, l4, l5, l6, l7] (st) M Q) := w_if_ne mC_89 d89_93 (by decide)
theorem d89_96 : decode cX11_best 96 = .ok (.iload 4, 2) := by decide +kernel
theorem k89_96 {d : Nat} {x : Int32} {l0 l1 l2 l3 l5 l6 l7 : Option PV} {st : List PV} {M : Mem} {Q : Option PV → Mem → Prop} : WP d 89 96 [l0, l1, l2, l3, some (vi x), l5, l6, l7] (st) M Q = WP d 89 98 [l0, l1, l2, l3, some (vi x), l5, l6, l7] (vi x :: st) M Q := w1 mC_89 d89_96 rfl rfl
theorem d89_98 : decode cX11_best 98 = .ok (.goto 5, 3) := by decide +kernel
theorem k89_98 {d : Nat} {l0 l1 l2 l3 l4 l5 l6 l7 : Option PV} {st : List PV} {M : Mem} {Q : Option PV → Mem → Prop} : WP d 89 98 [l0, l1, l2, l3, l4, l5, l6, l7] (st) M Q = WP d 89 103 [l0, l1, l2, l3, l4, l5, l6, l7] (st) M Q := w_goto mC_89 d89_98 (by decide)
theorem d89_101 : decode cX11_best 101 = .ok (.iload 5, 2) := by decide +kernel
theorem k89_101 {d : Nat} {x : Int32} {l0 l1 l2 l3 l4 l6 l7 : Option PV} {st : List PV} {M : Mem} {Q : Option PV → Mem → Prop} : WP d 89 101 [l0, l1, l2, l3, l4, some (vi x), l6, l7] (st) M Q = WP d 89 103 [l0, l1, l2, l3, l4, some (vi x), l6, l7] (vi x :: st) M Q := w1 mC_89 d89_101 rfl rfl
theorem d89_103 : decode cX11_best 103 = .ok (.ireturn, 1) := by decide +kernel
theorem k89_103 {d : Nat} {l0 l1 l2 l3 l4 l5 l6 l7 : Option PV} {M : Mem} {Q : Option PV → Mem → Prop} {x : Int32} : WP d 89 103 [l0, l1, l2, l3, l4, l5, l6, l7] ([vi x]) M Q = Q (some (vi x)) M := w_iret mC_89 d89_103 rfl
theorem d90_0 : decode cX11_dealt 0 = .ok (.iload_n 1, 1) := by decide +kernel
theorem k90_0 {d : Nat} {x : Int32} {l0 l2 : Option PV} {st : List PV} {M : Mem} {Q : Option PV → Mem → Prop} : WP d 90 0 [l0, some (vi x), l2] (st) M Q = WP d 90 1 [l0, some (vi x), l2] (vi x :: st) M Q := w1 mC_90 d90_0 rfl rfl
theorem d90_1 : decode cX11_dealt 1 = .ok (.iconst 1, 1) := by decide +kernel
theorem k90_1 {d : Nat} {l0 l1 l2 : Option PV} {st : List PV} {M : Mem} {Q : Option PV → Mem → Prop} : WP d 90 1 [l0, l1, l2] (st) M Q = WP d 90 2 [l0, l1, l2] (vi 1 :: st) M Q := w_iconst mC_90 d90_1 (by decide)
theorem d90_2 : decode cX11_dealt 2 = .ok (.bipush 99, 2) := by decide +kernel
theorem k90_2 {d : Nat} {l0 l1 l2 : Option PV} {st : List PV} {M : Mem} {Q : Option PV → Mem → Prop} : WP d 90 2 [l0, l1, l2] (st) M Q = WP d 90 4 [l0, l1, l2] (vi 99 :: st) M Q := w_bipush mC_90 d90_2 (by decide)
theorem d90_4 : decode cX11_dealt 4 = .ok (.invokestatic 79, 3) := by decide +kernel
theorem k90_4 {d : Nat} {l0 l1 l2 : Option PV} {st : List PV} {M : Mem} {Q : Option PV → Mem → Prop} {a0 a1 a2 : Int32} (hl : szL st ≤ 8) : WP (d + 1) 90 4 [l0, l1, l2] (vi a2 :: vi a1 :: vi a0 :: st) M Q = WP d 141 0 [some (vi a0), some (vi a1), some (vi a2)] [] M (fun v M' => WP (d + 1) 90 7 [l0, l1, l2] (psh v st) M' Q) := w_callS mC_90 d90_4 rfl rfl (Nat.le_of_ble_eq_true rfl) (by decide) rfl hl
theorem d90_7 : decode cX11_dealt 7 = .ok (.ifCond .eq 19, 3) := by decide +kernel
theorem k90_7 {d : Nat} {l0 l1 l2 : Option PV} {st : List PV} {M : Mem} {Q : Option PV → Mem → Prop} {x : Int32} : WP d 90 7 [l0, l1, l2] (vi x :: st) M Q = (if x = 0 then WP d 90 26 [l0, l1, l2] (st) M Q else WP d 90 10 [l0, l1, l2] (st) M Q) := w_if_eq mC_90 d90_7 (by decide)
theorem d90_10 : decode cX11_dealt 10 = .ok (.iload_n 2, 1) := by decide +kernel
theorem k90_10 {d : Nat} {x : Int32} {l0 l1 : Option PV} {st : List PV} {M : Mem} {Q : Option PV → Mem → Prop} : WP d 90 10 [l0, l1, some (vi x)] (st) M Q = WP d 90 11 [l0, l1, some (vi x)] (vi x :: st) M Q := w1 mC_90 d90_10 rfl rfl
theorem d90_11 : decode cX11_dealt 11 = .ok (.iconst (-1), 1) := by decide +kernel
theorem k90_11 {d : Nat} {l0 l1 l2 : Option PV} {st : List PV} {M : Mem} {Q : Option PV → Mem → Prop} : WP d 90 11 [l0, l1, l2] (st) M Q = WP d 90 12 [l0, l1, l2] (vi (-1) :: st) M Q := w_iconst mC_90 d90_11 (by decide)
theorem d90_12 : decode cX11_dealt 12 = .ok (.if_icmp .eq 16, 3) := by decide +kernel
theorem k90_12 {d : Nat} {l0 l1 l2 : Option PV} {st : List PV} {M : Mem} {Q : Option PV → Mem → Prop} {x y : Int32} : WP d 90 12 [l0, l1, l2] (vi y :: vi x :: st) M Q = (if x = y then WP d 90 28 [l0, l1, l2] (st) M Q else WP d 90 15 [l0, l1, l2] (st) M Q) := w_ic_eq mC_90 d90_12 (by decide)
theorem d90_15 : decode cX11_dealt 15 = .ok (.aload_n 0, 1) := by decide +kernel
theorem k90_15 {d x : Nat} {l1 l2 : Option PV} {st : List PV} {M : Mem} {Q : Option PV → Mem → Prop} : WP d 90 15 [some (vr x), l1, l2] (st) M Q = WP d 90 16 [some (vr x), l1, l2] (vr x :: st) M Q := w1 mC_90 d90_15 rfl rfl
theorem d90_16 : decode cX11_dealt 16 = .ok (.getfield 10, 3) := by decide +kernel
theorem k90_16 {d : Nat} {l0 l1 l2 : Option PV} {st : List PV} {M : Mem} {Q : Option PV → Mem → Prop} {r : Nat} (hk : mK M r = 11) : WP d 90 16 [l0, l1, l2] (vr r :: st) M Q = WP d 90 19 [l0, l1, l2] (vr (mR M r 0) :: st) M Q := w_getr mC_90 d90_16 fE_11_10 rfl (by rw [hk]; rfl)
theorem d90_19 : decode cX11_dealt 19 = .ok (.iload_n 2, 1) := by decide +kernel
theorem k90_19 {d : Nat} {x : Int32} {l0 l1 : Option PV} {st : List PV} {M : Mem} {Q : Option PV → Mem → Prop} : WP d 90 19 [l0, l1, some (vi x)] (st) M Q = WP d 90 20 [l0, l1, some (vi x)] (vi x :: st) M Q := w1 mC_90 d90_19 rfl rfl
theorem d90_20 : decode cX11_dealt 20 = .ok (.invokevirtual 117, 3) := by decide +kernel
theorem k90_20 {d : Nat} {l0 l1 l2 : Option PV} {st : List PV} {M : Mem} {Q : Option PV → Mem → Prop} {a0 : Int32} {r : Nat} (hl : szL st ≤ 8) (hk : mK M r = 4) : WP (d + 1) 90 20 [l0, l1, l2] (vi a0 :: vr r :: st) M Q = WP d 24 0 [some (vr r), some (vi a0)] [] M (fun v M' => WP (d + 1) 90 23 [l0, l1, l2] (psh v st) M' Q) := w_callV mC_90 d90_20 (ci := 4) rfl rfl rfl (Nat.le_of_ble_eq_true rfl) (by decide) rfl hl (Or.inl hk)
theorem d90_23 : decode cX11_dealt 23 = .ok (.ifCond .ne 5, 3) := by decide +kernel
theorem k90_23 {d : Nat} {l0 l1 l2 : Option PV} {st : List PV} {M : Mem} {Q : Option PV → Mem → Prop} {x : Int32} : WP d 90 23 [l0, l1, l2] (vi x :: st) M Q = (if x = 0 then WP d 90 26 [l0, l1, l2] (st) M Q else WP d 90 28 [l0, l1, l2] (st) M Q) := w_if_ne mC_90 d90_23 (by decide)
theorem d90_26 : decode cX11_dealt 26 = .ok (.iconst (-1), 1) := by decide +kernel
theorem k90_26 {d : Nat} {l0 l1 l2 : Option PV} {st : List PV} {M : Mem} {Q : Option PV → Mem → Prop} : WP d 90 26 [l0, l1, l2] (st) M Q = WP d 90 27 [l0, l1, l2] (vi (-1) :: st) M Q := w_iconst mC_90 d90_26 (by decide)
theorem d90_27 : decode cX11_dealt 27 = .ok (.ireturn, 1) := by decide +kernel
theorem k90_27 {d : Nat} {l0 l1 l2 : Option PV} {M : Mem} {Q : Option PV → Mem → Prop} {x : Int32} : WP d 90 27 [l0, l1, l2] ([vi x]) M Q = Q (some (vi x)) M := w_iret mC_90 d90_27 rfl
theorem d90_28 : decode cX11_dealt 28 = .ok (.aload_n 0, 1) := by decide +kernel
theorem k90_28 {d x : Nat} {l1 l2 : Option PV} {st : List PV} {M : Mem} {Q : Option PV → Mem → Prop} : WP d 90 28 [some (vr x), l1, l2] (st) M Q = WP d 90 29 [some (vr x), l1, l2] (vr x :: st) M Q := w1 mC_90 d90_28 rfl rfl
theorem d90_29 : decode cX11_dealt 29 = .ok (.iload_n 1, 1) := by decide +kernel
theorem k90_29 {d : Nat} {x : Int32} {l0 l2 : Option PV} {st : List PV} {M : Mem} {Q : Option PV → Mem → Prop} : WP d 90 29 [l0, some (vi x), l2] (st) M Q = WP d 90 30 [l0, some (vi x), l2] (vi x :: st) M Q := w1 mC_90 d90_29 rfl rfl
theorem d90_30 : decode cX11_dealt 30 = .ok (.invokevirtual 190, 3) := by decide +kernel
theorem k90_30 {d : Nat} {l0 l1 l2 : Option PV} {st : List PV} {M : Mem} {Q : Option PV → Mem → Prop} {a0 : Int32} {r : Nat} (hl : szL st ≤ 8) (hk : mK M r = 11) : WP (d + 1) 90 30 [l0, l1, l2] (vi a0 :: vr r :: st) M Q = WP d 91 0 [some (vr r), some (vi a0), none, none] [] M (fun v M' => WP (d + 1) 90 33 [l0, l1, l2] (psh v st) M' Q) := w_callV mC_90 d90_30 (ci := 11) rfl rfl rfl (Nat.le_of_ble_eq_true rfl) (by decide) rfl hl (Or.inl hk)
theorem d90_33 : decode cX11_dealt 33 = .ok (.aload_n 0, 1) := by decide +kernel
theorem k90_33 {d x : Nat} {l1 l2 : Option PV} {st : List PV} {M : Mem} {Q : Option PV → Mem → Prop} : WP d 90 33 [some (vr x), l1, l2] (st) M Q = WP d 90 34 [some (vr x), l1, l2] (vr x :: st) M Q := w1 mC_90 d90_33 rfl rfl
theorem d90_34 : decode cX11_dealt 34 = .ok (.invokevirtual 193, 3) := by decide +kernel
theorem k90_34 {d : Nat} {l0 l1 l2 : Option PV} {st : List PV} {M : Mem} {Q : Option PV → Mem → Prop} {r : Nat} (hl : szL st ≤ 8) (hk : mK M r = 11) : WP (d + 1) 90 34 [l0, l1, l2] (vr r :: st) M Q = WP d 92 0 [some (vr r), none, none, none, none] [] M (fun v M' => WP (d + 1) 90 37 [l0, l1, l2] (psh v st) M' Q) := w_callV mC_90 d90_34 (ci := 11) rfl rfl rfl (Nat.le_of_ble_eq_true rfl) (by decide) rfl hl (Or.inl hk)
theorem d90_37 : decode cX11_dealt 37 = .ok (.iload_n 2, 1) := by decide +kernel
theorem k90_37 {d : Nat} {x : Int32} {l0 l1 : Option PV} {st : List PV} {M : Mem} {Q : Option PV → Mem → Prop} : WP d 90 37 [l0, l1, some (vi x)] (st) M Q = WP d 90 38 [l0, l1, some (vi x)] (vi x :: st) M Q := w1 mC_90 d90_37 rfl rfl
theorem d90_38 : decode cX11_dealt 38 = .ok (.iconst (-1), 1) := by decide +kernel
theorem k90_38 {d : Nat} {l0 l1 l2 : Option PV} {st : List PV} {M : Mem} {Q : Option PV → Mem → Prop} : WP d 90 38 [l0, l1, l2] (st) M Q = WP d 90 39 [l0, l1, l2] (vi (-1) :: st) M Q := w_iconst mC_90 d90_38 (by decide)
theorem d90_39 : decode cX11_dealt 39 = .ok (.if_icmp .ne 14, 3) := by decide +kernel
theorem k90_39 {d : Nat} {l0 l1 l2 : Option PV} {st : List PV} {M : Mem} {Q : Option PV → Mem → Prop} {x y : Int32} : WP d 90 39 [l0, l1, l2] (vi y :: vi x :: st) M Q = (if x = y then WP d 90 42 [l0, l1, l2] (st) M Q else WP d 90 53 [l0, l1, l2] (st) M Q) := w_ic_ne mC_90 d90_39 (by decide)
theorem d90_42 : decode cX11_dealt 42 = .ok (.aload_n 0, 1) := by decide +kernel
theorem k90_42 {d x : Nat} {l1 l2 : Option PV} {st : List PV} {M : Mem} {Q : Option PV → Mem → Prop} : WP d 90 42 [some (vr x), l1, l2] (st) M Q = WP d 90 43 [some (vr x), l1, l2] (vr x :: st) M Q := w1 mC_90 d90_42 rfl rfl
theorem d90_43 : decode cX11_dealt 43 = .ok (.getfield 44, 3) := by decide +kernel
theorem k90_43 {d : Nat} {l0 l1 l2 : Option PV} {st : List PV} {M : Mem} {Q : Option PV → Mem → Prop} {r : Nat} (hk : mK M r = 11) : WP d 90 43 [l0, l1, l2] (vr r :: st) M Q = WP d 90 46 [l0, l1, l2] (vr (mR M r 12) :: st) M Q := w_getr mC_90 d90_43 fE_11_44 rfl (by rw [hk]; rfl)
theorem d90_46 : decode cX11_dealt 46 = .ok (.iconst 0, 1) := by decide +kernel
theorem k90_46 {d : Nat} {l0 l1 l2 : Option PV} {st : List PV} {M : Mem} {Q : Option PV → Mem → Prop} : WP d 90 46 [l0, l1, l2] (st) M Q = WP d 90 47 [l0, l1, l2] (vi 0 :: st) M Q := w_iconst mC_90 d90_46 (by decide)
theorem d90_47 : decode cX11_dealt 47 = .ok (.aaload, 1) := by decide +kernel
theorem k90_47 {d : Nat} {l0 l1 l2 : Option PV} {st : List PV} {M : Mem} {Q : Option PV → Mem → Prop} {r : Nat} {j : Int32} (hk : mK M r = 15 ∨ mK M r = 16 ∨ mK M r = 17) (hj : inb j (mN M r)) (h1 : r ≠ 1) : WP d 90 47 [l0, l1, l2] (vi j :: vr r :: st) M Q = WP d 90 48 [l0, l1, l2] (vr (mR M r (ix j)) :: st) M Q := w_aald mC_90 d90_47 hk hj h1
theorem d90_48 : decode cX11_dealt 48 = .ok (.iconst 0, 1) := by decide +kernel
theorem k90_48 {d : Nat} {l0 l1 l2 : Option PV} {st : List PV} {M : Mem} {Q : Option PV → Mem → Prop} : WP d 90 48 [l0, l1, l2] (st) M Q = WP d 90 49 [l0, l1, l2] (vi 0 :: st) M Q := w_iconst mC_90 d90_48 (by decide)
theorem d90_49 : decode cX11_dealt 49 = .ok (.iaload, 1) := by decide +kernel
theorem k90_49 {d : Nat} {l0 l1 l2 : Option PV} {st : List PV} {M : Mem} {Q : Option PV → Mem → Prop} {r : Nat} {j : Int32} (hk : mK M r = 13) (hj : inb j (mN M r)) (_h1 : r ≠ 1) : WP d 90 49 [l0, l1, l2] (vi j :: vr r :: st) M Q = WP d 90 50 [l0, l1, l2] (vi (mI M r (ix j)) :: st) M Q := w_iald mC_90 d90_49 hk hj
theorem d90_50 : decode cX11_dealt 50 = .ok (.goto 8, 3) := by decide +kernel
theorem k90_50 {d : Nat} {l0 l1 l2 : Option PV} {st : List PV} {M : Mem} {Q : Option PV → Mem → Prop} : WP d 90 50 [l0, l1, l2] (st) M Q = WP d 90 58 [l0, l1, l2] (st) M Q := w_goto mC_90 d90_50 (by decide)
theorem d90_53 : decode cX11_dealt 53 = .ok (.aload_n 0, 1) := by decide +kernel
theorem k90_53 {d x : Nat} {l1 l2 : Option PV} {st : List PV} {M : Mem} {Q : Option PV → Mem → Prop} : WP d 90 53 [some (vr x), l1, l2] (st) M Q = WP d 90 54 [some (vr x), l1, l2] (vr x :: st) M Q := w1 mC_90 d90_53 rfl rfl
theorem d90_54 : decode cX11_dealt 54 = .ok (.iload_n 2, 1) := by decide +kernel
theorem k90_54 {d : Nat} {x : Int32} {l0 l1 : Option PV} {st : List PV} {M : Mem} {Q : Option PV → Mem → Prop} : WP d 90 54 [l0, l1, some (vi x)] (st) M Q = WP d 90 55 [l0, l1, some (vi x)] (vi x :: st) M Q := w1 mC_90 d90_54 rfl rfl
theorem d90_55 : decode cX11_dealt 55 = .ok (.invokevirtual 196, 3) := by decide +kernel
theorem k90_55 {d : Nat} {l0 l1 l2 : Option PV} {st : List PV} {M : Mem} {Q : Option PV → Mem → Prop} {a0 : Int32} {r : Nat} (hl : szL st ≤ 8) (hk : mK M r = 11) : WP (d + 1) 90 55 [l0, l1, l2] (vi a0 :: vr r :: st) M Q = WP d 94 0 [some (vr r), some (vi a0), none, none, none] [] M (fun v M' => WP (d + 1) 90 58 [l0, l1, l2] (psh v st) M' Q) := w_callV mC_90 d90_55 (ci := 11) rfl rfl rfl (Nat.le_of_ble_eq_true rfl) (by decide) rfl hl (Or.inl hk)
theorem d90_58 : decode cX11_dealt 58 = .ok (.ireturn, 1) := by decide +kernel
theorem k90_58 {d : Nat} {l0 l1 l2 : Option PV} {M : Mem} {Q : Option PV → Mem → Prop} {x : Int32} : WP d 90 58 [l0, l1, l2] ([vi x]) M Q = Q (some (vi x)) M := w_iret mC_90 d90_58 rfl
theorem d91_0 : decode cX11_thinkGains 0 = .ok (.iconst 0, 1) := by decide +kernel
theorem k91_0 {d : Nat} {l0 l1 l2 l3 : Option PV} {st : List PV} {M : Mem} {Q : Option PV → Mem → Prop} : WP d 91 0 [l0, l1, l2, l3] (st) M Q = WP d 91 1 [l0, l1, l2, l3] (vi 0 :: st) M Q := w_iconst mC_91 d91_0 (by decide)
theorem d91_1 : decode cX11_thinkGains 1 = .ok (.istore_n 2, 1) := by decide +kernel
theorem k91_1 {d : Nat} {l0 l1 l2 l3 : Option PV} {st : List PV} {M : Mem} {Q : Option PV → Mem → Prop} {x : Int32} : WP d 91 1 [l0, l1, l2, l3] (vi x :: st) M Q = WP d 91 2 [l0, l1, some (vi x), l3] (st) M Q := w1 mC_91 d91_1 rfl rfl
theorem d91_2 : decode cX11_thinkGains 2 = .ok (.iload_n 2, 1) := by decide +kernel
theorem k91_2 {d : Nat} {x : Int32} {l0 l1 l3 : Option PV} {st : List PV} {M : Mem} {Q : Option PV → Mem → Prop} : WP d 91 2 [l0, l1, some (vi x), l3] (st) M Q = WP d 91 3 [l0, l1, some (vi x), l3] (vi x :: st) M Q := w1 mC_91 d91_2 rfl rfl
theorem d91_3 : decode cX11_thinkGains 3 = .ok (.aload_n 0, 1) := by decide +kernel
theorem k91_3 {d x : Nat} {l1 l2 l3 : Option PV} {st : List PV} {M : Mem} {Q : Option PV → Mem → Prop} : WP d 91 3 [some (vr x), l1, l2, l3] (st) M Q = WP d 91 4 [some (vr x), l1, l2, l3] (vr x :: st) M Q := w1 mC_91 d91_3 rfl rfl
theorem d91_4 : decode cX11_thinkGains 4 = .ok (.getfield 10, 3) := by decide +kernel
theorem k91_4 {d : Nat} {l0 l1 l2 l3 : Option PV} {st : List PV} {M : Mem} {Q : Option PV → Mem → Prop} {r : Nat} (hk : mK M r = 11) : WP d 91 4 [l0, l1, l2, l3] (vr r :: st) M Q = WP d 91 7 [l0, l1, l2, l3] (vr (mR M r 0) :: st) M Q := w_getr mC_91 d91_4 fE_11_10 rfl (by rw [hk]; rfl)
theorem d91_7 : decode cX11_thinkGains 7 = .ok (.getfield 199, 3) := by decide +kernel
theorem k91_7 {d : Nat} {l0 l1 l2 l3 : Option PV} {st : List PV} {M : Mem} {Q : Option PV → Mem → Prop} {r : Nat} (hk : mK M r = 4) : WP d 91 7 [l0, l1, l2, l3] (vr r :: st) M Q = WP d 91 10 [l0, l1, l2, l3] (vi (mI M r 7) :: st) M Q := w_get mC_91 d91_7 fE_11_199 rfl (by rw [hk]; rfl)
theorem d91_10 : decode cX11_thinkGains 10 = .ok (.if_icmp .ge 48, 3) := by decide +kernel
theorem k91_10 {d : Nat} {l0 l1 l2 l3 : Option PV} {st : List PV} {M : Mem} {Q : Option PV → Mem → Prop} {x y : Int32} : WP d 91 10 [l0, l1, l2, l3] (vi y :: vi x :: st) M Q = (if y ≤ x then WP d 91 58 [l0, l1, l2, l3] (st) M Q else WP d 91 13 [l0, l1, l2, l3] (st) M Q) := w_ic_ge mC_91 d91_10 (by decide)
theorem d91_13 : decode cX11_thinkGains 13 = .ok (.iconst 0, 1) := by decide +kernel
theorem k91_13 {d : Nat} {l0 l1 l2 l3 : Option PV} {st : List PV} {M : Mem} {Q : Option PV → Mem → Prop} : WP d 91 13 [l0, l1, l2, l3] (st) M Q = WP d 91 14 [l0, l1, l2, l3] (vi 0 :: st) M Q := w_iconst mC_91 d91_13 (by decide)
theorem d91_14 : decode cX11_thinkGains 14 = .ok (.istore_n 3, 1) := by decide +kernel
theorem k91_14 {d : Nat} {l0 l1 l2 l3 : Option PV} {st : List PV} {M : Mem} {Q : Option PV → Mem → Prop} {x : Int32} : WP d 91 14 [l0, l1, l2, l3] (vi x :: st) M Q = WP d 91 15 [l0, l1, l2, some (vi x)] (st) M Q := w1 mC_91 d91_14 rfl rfl
theorem d91_15 : decode cX11_thinkGains 15 = .ok (.iload_n 3, 1) := by decide +kernel
theorem k91_15 {d : Nat} {x : Int32} {l0 l1 l2 : Option PV} {st : List PV} {M : Mem} {Q : Option PV → Mem → Prop} : WP d 91 15 [l0, l1, l2, some (vi x)] (st) M Q = WP d 91 16 [l0, l1, l2, some (vi x)] (vi x :: st) M Q := w1 mC_91 d91_15 rfl rfl
theorem d91_16 : decode cX11_thinkGains 16 = .ok (.aload_n 0, 1) := by decide +kernel
theorem k91_16 {d x : Nat} {l1 l2 l3 : Option PV} {st : List PV} {M : Mem} {Q : Option PV → Mem → Prop} : WP d 91 16 [some (vr x), l1, l2, l3] (st) M Q = WP d 91 17 [some (vr x), l1, l2, l3] (vr x :: st) M Q := w1 mC_91 d91_16 rfl rfl
theorem d91_17 : decode cX11_thinkGains 17 = .ok (.getfield 10, 3) := by decide +kernel
theorem k91_17 {d : Nat} {l0 l1 l2 l3 : Option PV} {st : List PV} {M : Mem} {Q : Option PV → Mem → Prop} {r : Nat} (hk : mK M r = 11) : WP d 91 17 [l0, l1, l2, l3] (vr r :: st) M Q = WP d 91 20 [l0, l1, l2, l3] (vr (mR M r 0) :: st) M Q := w_getr mC_91 d91_17 fE_11_10 rfl (by rw [hk]; rfl)
theorem d91_20 : decode cX11_thinkGains 20 = .ok (.getfield 187, 3) := by decide +kernel
theorem k91_20 {d : Nat} {l0 l1 l2 l3 : Option PV} {st : List PV} {M : Mem} {Q : Option PV → Mem → Prop} {r : Nat} (hk : mK M r = 4) : WP d 91 20 [l0, l1, l2, l3] (vr r :: st) M Q = WP d 91 23 [l0, l1, l2, l3] (vi (mI M r 8) :: st) M Q := w_get mC_91 d91_20 fE_11_187 rfl (by rw [hk]; rfl)
theorem d91_23 : decode cX11_thinkGains 23 = .ok (.if_icmp .ge 29, 3) := by decide +kernel
theorem k91_23 {d : Nat} {l0 l1 l2 l3 : Option PV} {st : List PV} {M : Mem} {Q : Option PV → Mem → Prop} {x y : Int32} : WP d 91 23 [l0, l1, l2, l3] (vi y :: vi x :: st) M Q = (if y ≤ x then WP d 91 52 [l0, l1, l2, l3] (st) M Q else WP d 91 26 [l0, l1, l2, l3] (st) M Q) := w_ic_ge mC_91 d91_23 (by decide)
theorem d91_26 : decode cX11_thinkGains 26 = .ok (.aload_n 0, 1) := by decide +kernel
theorem k91_26 {d x : Nat} {l1 l2 l3 : Option PV} {st : List PV} {M : Mem} {Q : Option PV → Mem → Prop} : WP d 91 26 [some (vr x), l1, l2, l3] (st) M Q = WP d 91 27 [some (vr x), l1, l2, l3] (vr x :: st) M Q := w1 mC_91 d91_26 rfl rfl
theorem d91_27 : decode cX11_thinkGains 27 = .ok (.iload_n 2, 1) := by decide +kernel
theorem k91_27 {d : Nat} {x : Int32} {l0 l1 l3 : Option PV} {st : List PV} {M : Mem} {Q : Option PV → Mem → Prop} : WP d 91 27 [l0, l1, some (vi x), l3] (st) M Q = WP d 91 28 [l0, l1, some (vi x), l3] (vi x :: st) M Q := w1 mC_91 d91_27 rfl rfl
theorem d91_28 : decode cX11_thinkGains 28 = .ok (.iload_n 3, 1) := by decide +kernel
theorem k91_28 {d : Nat} {x : Int32} {l0 l1 l2 : Option PV} {st : List PV} {M : Mem} {Q : Option PV → Mem → Prop} : WP d 91 28 [l0, l1, l2, some (vi x)] (st) M Q = WP d 91 29 [l0, l1, l2, some (vi x)] (vi x :: st) M Q := w1 mC_91 d91_28 rfl rfl
theorem d91_29 : decode cX11_thinkGains 29 = .ok (.iload_n 1, 1) := by decide +kernel
theorem k91_29 {d : Nat} {x : Int32} {l0 l2 l3 : Option PV} {st : List PV} {M : Mem} {Q : Option PV → Mem → Prop} : WP d 91 29 [l0, some (vi x), l2, l3] (st) M Q = WP d 91 30 [l0, some (vi x), l2, l3] (vi x :: st) M Q := w1 mC_91 d91_29 rfl rfl
theorem d91_30 : decode cX11_thinkGains 30 = .ok (.invokevirtual 169, 3) := by decide +kernel
theorem k91_30 {d : Nat} {l0 l1 l2 l3 : Option PV} {st : List PV} {M : Mem} {Q : Option PV → Mem → Prop} {a0 a1 a2 : Int32} {r : Nat} (hl : szL st ≤ 8) (hk : mK M r = 11) : WP (d + 1) 91 30 [l0, l1, l2, l3] (vi a2 :: vi a1 :: vi a0 :: vr r :: st) M Q = WP d 86 0 [some (vr r), some (vi a0), some (vi a1), some (vi a2)] [] M (fun v M' => WP (d + 1) 91 33 [l0, l1, l2, l3] (psh v st) M' Q) := w_callV mC_91 d91_30 (ci := 11) rfl rfl rfl (Nat.le_of_ble_eq_true rfl) (by decide) rfl hl (Or.inl hk)
theorem d91_33 : decode cX11_thinkGains 33 = .ok (.aload_n 0, 1) := by decide +kernel
theorem k91_33 {d x : Nat} {l1 l2 l3 : Option PV} {st : List PV} {M : Mem} {Q : Option PV → Mem → Prop} : WP d 91 33 [some (vr x), l1, l2, l3] (st) M Q = WP d 91 34 [some (vr x), l1, l2, l3] (vr x :: st) M Q := w1 mC_91 d91_33 rfl rfl
theorem d91_34 : decode cX11_thinkGains 34 = .ok (.getfield 41, 3) := by decide +kernel
theorem k91_34 {d : Nat} {l0 l1 l2 l3 : Option PV} {st : List PV} {M : Mem} {Q : Option PV → Mem → Prop} {r : Nat} (hk : mK M r = 11) : WP d 91 34 [l0, l1, l2, l3] (vr r :: st) M Q = WP d 91 37 [l0, l1, l2, l3] (vr (mR M r 11) :: st) M Q := w_getr mC_91 d91_34 fE_11_41 rfl (by rw [hk]; rfl)
theorem d91_37 : decode cX11_thinkGains 37 = .ok (.iload_n 2, 1) := by decide +kernel
theorem k91_37 {d : Nat} {x : Int32} {l0 l1 l3 : Option PV} {st : List PV} {M : Mem} {Q : Option PV → Mem → Prop} : WP d 91 37 [l0, l1, some (vi x), l3] (st) M Q = WP d 91 38 [l0, l1, some (vi x), l3] (vi x :: st) M Q := w1 mC_91 d91_37 rfl rfl
theorem d91_38 : decode cX11_thinkGains 38 = .ok (.aaload, 1) := by decide +kernel
theorem k91_38 {d : Nat} {l0 l1 l2 l3 : Option PV} {st : List PV} {M : Mem} {Q : Option PV → Mem → Prop} {r : Nat} {j : Int32} (hk : mK M r = 15 ∨ mK M r = 16 ∨ mK M r = 17) (hj : inb j (mN M r)) (h1 : r ≠ 1) : WP d 91 38 [l0, l1, l2, l3] (vi j :: vr r :: st) M Q = WP d 91 39 [l0, l1, l2, l3] (vr (mR M r (ix j)) :: st) M Q := w_aald mC_91 d91_38 hk hj h1
theorem d91_39 : decode cX11_thinkGains 39 = .ok (.iload_n 3, 1) := by decide +kernel
theorem k91_39 {d : Nat} {x : Int32} {l0 l1 l2 : Option PV} {st : List PV} {M : Mem} {Q : Option PV → Mem → Prop} : WP d 91 39 [l0, l1, l2, some (vi x)] (st) M Q = WP d 91 40 [l0, l1, l2, some (vi x)] (vi x :: st) M Q := w1 mC_91 d91_39 rfl rfl
theorem d91_40 : decode cX11_thinkGains 40 = .ok (.aload_n 0, 1) := by decide +kernel
theorem k91_40 {d x : Nat} {l1 l2 l3 : Option PV} {st : List PV} {M : Mem} {Q : Option PV → Mem → Prop} : WP d 91 40 [some (vr x), l1, l2, l3] (st) M Q = WP d 91 41 [some (vr x), l1, l2, l3] (vr x :: st) M Q := w1 mC_91 d91_40 rfl rfl
theorem d91_41 : decode cX11_thinkGains 41 = .ok (.iload_n 3, 1) := by decide +kernel
theorem k91_41 {d : Nat} {x : Int32} {l0 l1 l2 : Option PV} {st : List PV} {M : Mem} {Q : Option PV → Mem → Prop} : WP d 91 41 [l0, l1, l2, some (vi x)] (st) M Q = WP d 91 42 [l0, l1, l2, some (vi x)] (vi x :: st) M Q := w1 mC_91 d91_41 rfl rfl
theorem d91_42 : decode cX11_thinkGains 42 = .ok (.invokevirtual 172, 3) := by decide +kernel
theorem k91_42 {d : Nat} {l0 l1 l2 l3 : Option PV} {st : List PV} {M : Mem} {Q : Option PV → Mem → Prop} {a0 : Int32} {r : Nat} (hl : szL st ≤ 8) (hk : mK M r = 11) : WP (d + 1) 91 42 [l0, l1, l2, l3] (vi a0 :: vr r :: st) M Q = WP d 87 0 [some (vr r), some (vi a0), none, none] [] M (fun v M' => WP (d + 1) 91 45 [l0, l1, l2, l3] (psh v st) M' Q) := w_callV mC_91 d91_42 (ci := 11) rfl rfl rfl (Nat.le_of_ble_eq_true rfl) (by decide) rfl hl (Or.inl hk)
theorem d91_45 : decode cX11_thinkGains 45 = .ok (.iastore, 1) := by decide +kernel
theorem k91_45 {d : Nat} {l0 l1 l2 l3 : Option PV} {st : List PV} {M : Mem} {Q : Option PV → Mem → Prop} {r : Nat} {j x : Int32} (hk : mK M r = 13) (hj : inb j (mN M r)) (h1 : r ≠ 1) : WP d 91 45 [l0, l1, l2, l3] (vi x :: vi j :: vr r :: st) M Q = WP d 91 46 [l0, l1, l2, l3] (st) (sI M r (ix j) x) Q := w_iast mC_91 d91_45 hk hj h1
theorem d91_46 : decode cX11_thinkGains 46 = .ok (.iinc 3 1, 3) := by decide +kernel
theorem k91_46 {d : Nat} {x : Int32} {l0 l1 l2 : Option PV} {st : List PV} {M : Mem} {Q : Option PV → Mem → Prop} : WP d 91 46 [l0, l1, l2, some (vi x)] (st) M Q = WP d 91 49 [l0, l1, l2, some (vi (x + 1))] (st) M Q := w_iinc mC_91 d91_46 rfl (by decide) rfl
theorem d91_49 : decode cX11_thinkGains 49 = .ok (.goto (-34), 3) := by decide +kernel
theorem k91_49 {d : Nat} {l0 l1 l2 l3 : Option PV} {st : List PV} {M : Mem} {Q : Option PV → Mem → Prop} : WP d 91 49 [l0, l1, l2, l3] (st) M Q = WP d 91 15 [l0, l1, l2, l3] (st) M Q := w_goto mC_91 d91_49 (by decide)
theorem d91_52 : decode cX11_thinkGains 52 = .ok (.iinc 2 1, 3) := by decide +kernel
theorem k91_52 {d : Nat} {x : Int32} {l0 l1 l3 : Option PV} {st : List PV} {M : Mem} {Q : Option PV → Mem → Prop} : WP d 91 52 [l0, l1, some (vi x), l3] (st) M Q = WP d 91 55 [l0, l1, some (vi (x + 1)), l3] (st) M Q := w_iinc mC_91 d91_52 rfl (by decide) rfl
theorem d91_55 : decode cX11_thinkGains 55 = .ok (.goto (-53), 3) := by decide +kernel
theorem k91_55 {d : Nat} {l0 l1 l2 l3 : Option PV} {st : List PV} {M : Mem} {Q : Option PV → Mem → Prop} : WP d 91 55 [l0, l1, l2, l3] (st) M Q = WP d 91 2 [l0, l1, l2, l3] (st) M Q := w_goto mC_91 d91_55 (by decide)
theorem d91_58 : decode cX11_thinkGains 58 = .ok (.return_, 1) := by decide +kernel
theorem k91_58 {d : Nat} {l0 l1 l2 l3 : Option PV} {M : Mem} {Q : Option PV → Mem → Prop} : WP d 91 58 [l0, l1, l2, l3] ([]) M Q = Q none M := w_vret mC_91 d91_58 rfl
theorem d92_0 : decode cX11_thinkMostBack 0 = .ok (.aload_n 0, 1) := by decide +kernel
theorem k92_0 {d x : Nat} {l1 l2 l3 l4 : Option PV} {st : List PV} {M : Mem} {Q : Option PV → Mem → Prop} : WP d 92 0 [some (vr x), l1, l2, l3, l4] (st) M Q = WP d 92 1 [some (vr x), l1, l2, l3, l4] (vr x :: st) M Q := w1 mC_92 d92_0 rfl rfl
theorem d92_1 : decode cX11_thinkMostBack 1 = .ok (.getfield 44, 3) := by decide +kernel
theorem k92_1 {d : Nat} {l0 l1 l2 l3 l4 : Option PV} {st : List PV} {M : Mem} {Q : Option PV → Mem → Prop} {r : Nat} (hk : mK M r = 11) : WP d 92 1 [l0, l1, l2, l3, l4] (vr r :: st) M Q = WP d 92 4 [l0, l1, l2, l3, l4] (vr (mR M r 12) :: st) M Q := w_getr mC_92 d92_1 fE_11_44 rfl (by rw [hk]; rfl)
theorem d92_4 : decode cX11_thinkMostBack 4 = .ok (.aload_n 0, 1) := by decide +kernel
theorem k92_4 {d x : Nat} {l1 l2 l3 l4 : Option PV} {st : List PV} {M : Mem} {Q : Option PV → Mem → Prop} : WP d 92 4 [some (vr x), l1, l2, l3, l4] (st) M Q = WP d 92 5 [some (vr x), l1, l2, l3, l4] (vr x :: st) M Q := w1 mC_92 d92_4 rfl rfl
theorem d92_5 : decode cX11_thinkMostBack 5 = .ok (.getfield 10, 3) := by decide +kernel
theorem k92_5 {d : Nat} {l0 l1 l2 l3 l4 : Option PV} {st : List PV} {M : Mem} {Q : Option PV → Mem → Prop} {r : Nat} (hk : mK M r = 11) : WP d 92 5 [l0, l1, l2, l3, l4] (vr r :: st) M Q = WP d 92 8 [l0, l1, l2, l3, l4] (vr (mR M r 0) :: st) M Q := w_getr mC_92 d92_5 fE_11_10 rfl (by rw [hk]; rfl)
theorem d92_8 : decode cX11_thinkMostBack 8 = .ok (.getfield 199, 3) := by decide +kernel
theorem k92_8 {d : Nat} {l0 l1 l2 l3 l4 : Option PV} {st : List PV} {M : Mem} {Q : Option PV → Mem → Prop} {r : Nat} (hk : mK M r = 4) : WP d 92 8 [l0, l1, l2, l3, l4] (vr r :: st) M Q = WP d 92 11 [l0, l1, l2, l3, l4] (vi (mI M r 7) :: st) M Q := w_get mC_92 d92_8 fE_11_199 rfl (by rw [hk]; rfl)
theorem d92_11 : decode cX11_thinkMostBack 11 = .ok (.aaload, 1) := by decide +kernel
theorem k92_11 {d : Nat} {l0 l1 l2 l3 l4 : Option PV} {st : List PV} {M : Mem} {Q : Option PV → Mem → Prop} {r : Nat} {j : Int32} (hk : mK M r = 15 ∨ mK M r = 16 ∨ mK M r = 17) (hj : inb j (mN M r)) (h1 : r ≠ 1) : WP d 92 11 [l0, l1, l2, l3, l4] (vi j :: vr r :: st) M Q = WP d 92 12 [l0, l1, l2, l3, l4] (vr (mR M r (ix j)) :: st) M Q := w_aald mC_92 d92_11 hk hj h1
theorem d92_12 : decode cX11_thinkMostBack 12 = .ok (.iconst 0, 1) := by decide +kernel
theorem k92_12 {d : Nat} {l0 l1 l2 l3 l4 : Option PV} {st : List PV} {M : Mem} {Q : Option PV → Mem → Prop} : WP d 92 12 [l0, l1, l2, l3, l4] (st) M Q = WP d 92 13 [l0, l1, l2, l3, l4] (vi 0 :: st) M Q := w_iconst mC_92 d92_12 (by decide)
theorem d92_13 : decode cX11_thinkMostBack 13 = .ok (.invokestatic 202, 3) := by decide +kernel
theorem k92_13 {d : Nat} {l0 l1 l2 l3 l4 : Option PV} {st : List PV} {M : Mem} {Q : Option PV → Mem → Prop} {a1 : Int32} {a0 : Nat} (hl : szL st ≤ 8) : WP (d + 1) 92 13 [l0, l1, l2, l3, l4] (vi a1 :: vr a0 :: st) M Q = WP d 249 0 [some (vr a0), some (vi a1), none, none] [] M (fun v M' => WP (d + 1) 92 16 [l0, l1, l2, l3, l4] (psh v st) M' Q) := w_callS mC_92 d92_13 rfl rfl (Nat.le_of_ble_eq_true rfl) (by decide) rfl hl
theorem d92_16 : decode cX11_thinkMostBack 16 = .ok (.aload_n 0, 1) := by decide +kernel
theorem k92_16 {d x : Nat} {l1 l2 l3 l4 : Option PV} {st : List PV} {M : Mem} {Q : Option PV → Mem → Prop} : WP d 92 16 [some (vr x), l1, l2, l3, l4] (st) M Q = WP d 92 17 [some (vr x), l1, l2, l3, l4] (vr x :: st) M Q := w1 mC_92 d92_16 rfl rfl
theorem d92_17 : decode cX11_thinkMostBack 17 = .ok (.getfield 10, 3) := by decide +kernel
theorem k92_17 {d : Nat} {l0 l1 l2 l3 l4 : Option PV} {st : List PV} {M : Mem} {Q : Option PV → Mem → Prop} {r : Nat} (hk : mK M r = 11) : WP d 92 17 [l0, l1, l2, l3, l4] (vr r :: st) M Q = WP d 92 20 [l0, l1, l2, l3, l4] (vr (mR M r 0) :: st) M Q := w_getr mC_92 d92_17 fE_11_10 rfl (by rw [hk]; rfl)
theorem d92_20 : decode cX11_thinkMostBack 20 = .ok (.getfield 199, 3) := by decide +kernel
theorem k92_20 {d : Nat} {l0 l1 l2 l3 l4 : Option PV} {st : List PV} {M : Mem} {Q : Option PV → Mem → Prop} {r : Nat} (hk : mK M r = 4) : WP d 92 20 [l0, l1, l2, l3, l4] (vr r :: st) M Q = WP d 92 23 [l0, l1, l2, l3, l4] (vi (mI M r 7) :: st) M Q := w_get mC_92 d92_20 fE_11_199 rfl (by rw [hk]; rfl)
theorem d92_23 : decode cX11_thinkMostBack 23 = .ok (.iconst 1, 1) := by decide +kernel
theorem k92_23 {d : Nat} {l0 l1 l2 l3 l4 : Option PV} {st : List PV} {M : Mem} {Q : Option PV → Mem → Prop} : WP d 92 23 [l0, l1, l2, l3, l4] (st) M Q = WP d 92 24 [l0, l1, l2, l3, l4] (vi 1 :: st) M Q := w_iconst mC_92 d92_23 (by decide)
theorem d92_24 : decode cX11_thinkMostBack 24 = .ok (.isub, 1) := by decide +kernel
theorem k92_24 {d : Nat} {l0 l1 l2 l3 l4 : Option PV} {st : List PV} {M : Mem} {Q : Option PV → Mem → Prop} {x y : Int32} : WP d 92 24 [l0, l1, l2, l3, l4] (vi y :: vi x :: st) M Q = WP d 92 25 [l0, l1, l2, l3, l4] (vi (x - y) :: st) M Q := w1 mC_92 d92_24 rfl rfl
theorem d92_25 : decode cX11_thinkMostBack 25 = .ok (.istore_n 1, 1) := by decide +kernel
theorem k92_25 {d : Nat} {l0 l1 l2 l3 l4 : Option PV} {st : List PV} {M : Mem} {Q : Option PV → Mem → Prop} {x : Int32} : WP d 92 25 [l0, l1, l2, l3, l4] (vi x :: st) M Q = WP d 92 26 [l0, some (vi x), l2, l3, l4] (st) M Q := w1 mC_92 d92_25 rfl rfl
theorem d92_26 : decode cX11_thinkMostBack 26 = .ok (.iload_n 1, 1) := by decide +kernel
theorem k92_26 {d : Nat} {x : Int32} {l0 l2 l3 l4 : Option PV} {st : List PV} {M : Mem} {Q : Option PV → Mem → Prop} : WP d 92 26 [l0, some (vi x), l2, l3, l4] (st) M Q = WP d 92 27 [l0, some (vi x), l2, l3, l4] (vi x :: st) M Q := w1 mC_92 d92_26 rfl rfl
theorem d92_27 : decode cX11_thinkMostBack 27 = .ok (.ifCond .lt 84, 3) := by decide +kernel
theorem k92_27 {d : Nat} {l0 l1 l2 l3 l4 : Option PV} {st : List PV} {M : Mem} {Q : Option PV → Mem → Prop} {x : Int32} : WP d 92 27 [l0, l1, l2, l3, l4] (vi x :: st) M Q = (if x < 0 then WP d 92 111 [l0, l1, l2, l3, l4] (st) M Q else WP d 92 30 [l0, l1, l2, l3, l4] (st) M Q) := w_if_lt mC_92 d92_27 (by decide)
theorem d92_30 : decode cX11_thinkMostBack 30 = .ok (.iconst 0, 1) := by decide +kernel
theorem k92_30 {d : Nat} {l0 l1 l2 l3 l4 : Option PV} {st : List PV} {M : Mem} {Q : Option PV → Mem → Prop} : WP d 92 30 [l0, l1, l2, l3, l4] (st) M Q = WP d 92 31 [l0, l1, l2, l3, l4] (vi 0 :: st) M Q := w_iconst mC_92 d92_30 (by decide)
theorem d92_31 : decode cX11_thinkMostBack 31 = .ok (.istore_n 2, 1) := by decide +kernel
theorem k92_31 {d : Nat} {l0 l1 l2 l3 l4 : Option PV} {st : List PV} {M : Mem} {Q : Option PV → Mem → Prop} {x : Int32} : WP d 92 31 [l0, l1, l2, l3, l4] (vi x :: st) M Q = WP d 92 32 [l0, l1, some (vi x), l3, l4] (st) M Q := w1 mC_92 d92_31 rfl rfl
theorem d92_32 : decode cX11_thinkMostBack 32 = .ok (.iload_n 2, 1) := by decide +kernel
theorem k92_32 {d : Nat} {x : Int32} {l0 l1 l3 l4 : Option PV} {st : List PV} {M : Mem} {Q : Option PV → Mem → Prop} : WP d 92 32 [l0, l1, some (vi x), l3, l4] (st) M Q = WP d 92 33 [l0, l1, some (vi x), l3, l4] (vi x :: st) M Q := w1 mC_92 d92_32 rfl rfl
theorem d92_33 : decode cX11_thinkMostBack 33 = .ok (.iconst 1, 1) := by decide +kernel
theorem k92_33 {d : Nat} {l0 l1 l2 l3 l4 : Option PV} {st : List PV} {M : Mem} {Q : Option PV → Mem → Prop} : WP d 92 33 [l0, l1, l2, l3, l4] (st) M Q = WP d 92 34 [l0, l1, l2, l3, l4] (vi 1 :: st) M Q := w_iconst mC_92 d92_33 (by decide)
theorem d92_34 : decode cX11_thinkMostBack 34 = .ok (.aload_n 0, 1) := by decide +kernel
theorem k92_34 {d x : Nat} {l1 l2 l3 l4 : Option PV} {st : List PV} {M : Mem} {Q : Option PV → Mem → Prop} : WP d 92 34 [some (vr x), l1, l2, l3, l4] (st) M Q = WP d 92 35 [some (vr x), l1, l2, l3, l4] (vr x :: st) M Q := w1 mC_92 d92_34 rfl rfl
theorem d92_35 : decode cX11_thinkMostBack 35 = .ok (.getfield 10, 3) := by decide +kernel
theorem k92_35 {d : Nat} {l0 l1 l2 l3 l4 : Option PV} {st : List PV} {M : Mem} {Q : Option PV → Mem → Prop} {r : Nat} (hk : mK M r = 11) : WP d 92 35 [l0, l1, l2, l3, l4] (vr r :: st) M Q = WP d 92 38 [l0, l1, l2, l3, l4] (vr (mR M r 0) :: st) M Q := w_getr mC_92 d92_35 fE_11_10 rfl (by rw [hk]; rfl)
theorem d92_38 : decode cX11_thinkMostBack 38 = .ok (.getfield 187, 3) := by decide +kernel
theorem k92_38 {d : Nat} {l0 l1 l2 l3 l4 : Option PV} {st : List PV} {M : Mem} {Q : Option PV → Mem → Prop} {r : Nat} (hk : mK M r = 4) : WP d 92 38 [l0, l1, l2, l3, l4] (vr r :: st) M Q = WP d 92 41 [l0, l1, l2, l3, l4] (vi (mI M r 8) :: st) M Q := w_get mC_92 d92_38 fE_11_187 rfl (by rw [hk]; rfl)
theorem d92_41 : decode cX11_thinkMostBack 41 = .ok (.ishl, 1) := by decide +kernel
theorem k92_41 {d : Nat} {l0 l1 l2 l3 l4 : Option PV} {st : List PV} {M : Mem} {Q : Option PV → Mem → Prop} {x y : Int32} : WP d 92 41 [l0, l1, l2, l3, l4] (vi y :: vi x :: st) M Q = WP d 92 42 [l0, l1, l2, l3, l4] (vi (x <<< (y &&& 31)) :: st) M Q := w1 mC_92 d92_41 rfl rfl
theorem d92_42 : decode cX11_thinkMostBack 42 = .ok (.if_icmp .ge 63, 3) := by decide +kernel
theorem k92_42 {d : Nat} {l0 l1 l2 l3 l4 : Option PV} {st : List PV} {M : Mem} {Q : Option PV → Mem → Prop} {x y : Int32} : WP d 92 42 [l0, l1, l2, l3, l4] (vi y :: vi x :: st) M Q = (if y ≤ x then WP d 92 105 [l0, l1, l2, l3, l4] (st) M Q else WP d 92 45 [l0, l1, l2, l3, l4] (st) M Q) := w_ic_ge mC_92 d92_42 (by decide)
theorem d92_45 : decode cX11_thinkMostBack 45 = .ok (.aload_n 0, 1) := by decide +kernel
theorem k92_45 {d x : Nat} {l1 l2 l3 l4 : Option PV} {st : List PV} {M : Mem} {Q : Option PV → Mem → Prop} : WP d 92 45 [some (vr x), l1, l2, l3, l4] (st) M Q = WP d 92 46 [some (vr x), l1, l2, l3, l4] (vr x :: st) M Q := w1 mC_92 d92_45 rfl rfl
theorem d92_46 : decode cX11_thinkMostBack 46 = .ok (.getfield 44, 3) := by decide +kernel
theorem k92_46 {d : Nat} {l0 l1 l2 l3 l4 : Option PV} {st : List PV} {M : Mem} {Q : Option PV → Mem → Prop} {r : Nat} (hk : mK M r = 11) : WP d 92 46 [l0, l1, l2, l3, l4] (vr r :: st) M Q = WP d 92 49 [l0, l1, l2, l3, l4] (vr (mR M r 12) :: st) M Q := w_getr mC_92 d92_46 fE_11_44 rfl (by rw [hk]; rfl)
theorem d92_49 : decode cX11_thinkMostBack 49 = .ok (.iload_n 1, 1) := by decide +kernel
theorem k92_49 {d : Nat} {x : Int32} {l0 l2 l3 l4 : Option PV} {st : List PV} {M : Mem} {Q : Option PV → Mem → Prop} : WP d 92 49 [l0, some (vi x), l2, l3, l4] (st) M Q = WP d 92 50 [l0, some (vi x), l2, l3, l4] (vi x :: st) M Q := w1 mC_92 d92_49 rfl rfl
theorem d92_50 : decode cX11_thinkMostBack 50 = .ok (.iconst 1, 1) := by decide +kernel
theorem k92_50 {d : Nat} {l0 l1 l2 l3 l4 : Option PV} {st : List PV} {M : Mem} {Q : Option PV → Mem → Prop} : WP d 92 50 [l0, l1, l2, l3, l4] (st) M Q = WP d 92 51 [l0, l1, l2, l3, l4] (vi 1 :: st) M Q := w_iconst mC_92 d92_50 (by decide)
theorem d92_51 : decode cX11_thinkMostBack 51 = .ok (.iadd, 1) := by decide +kernel
theorem k92_51 {d : Nat} {l0 l1 l2 l3 l4 : Option PV} {st : List PV} {M : Mem} {Q : Option PV → Mem → Prop} {x y : Int32} : WP d 92 51 [l0, l1, l2, l3, l4] (vi y :: vi x :: st) M Q = WP d 92 52 [l0, l1, l2, l3, l4] (vi (x + y) :: st) M Q := w1 mC_92 d92_51 rfl rfl
theorem d92_52 : decode cX11_thinkMostBack 52 = .ok (.aaload, 1) := by decide +kernel
theorem k92_52 {d : Nat} {l0 l1 l2 l3 l4 : Option PV} {st : List PV} {M : Mem} {Q : Option PV → Mem → Prop} {r : Nat} {j : Int32} (hk : mK M r = 15 ∨ mK M r = 16 ∨ mK M r = 17) (hj : inb j (mN M r)) (h1 : r ≠ 1) : WP d 92 52 [l0, l1, l2, l3, l4] (vi j :: vr r :: st) M Q = WP d 92 53 [l0, l1, l2, l3, l4] (vr (mR M r (ix j)) :: st) M Q := w_aald mC_92 d92_52 hk hj h1
theorem d92_53 : decode cX11_thinkMostBack 53 = .ok (.iload_n 2, 1) := by decide +kernel
theorem k92_53 {d : Nat} {x : Int32} {l0 l1 l3 l4 : Option PV} {st : List PV} {M : Mem} {Q : Option PV → Mem → Prop} : WP d 92 53 [l0, l1, some (vi x), l3, l4] (st) M Q = WP d 92 54 [l0, l1, some (vi x), l3, l4] (vi x :: st) M Q := w1 mC_92 d92_53 rfl rfl
theorem d92_54 : decode cX11_thinkMostBack 54 = .ok (.iaload, 1) := by decide +kernel
theorem k92_54 {d : Nat} {l0 l1 l2 l3 l4 : Option PV} {st : List PV} {M : Mem} {Q : Option PV → Mem → Prop} {r : Nat} {j : Int32} (hk : mK M r = 13) (hj : inb j (mN M r)) (_h1 : r ≠ 1) : WP d 92 54 [l0, l1, l2, l3, l4] (vi j :: vr r :: st) M Q = WP d 92 55 [l0, l1, l2, l3, l4] (vi (mI M r (ix j)) :: st) M Q := w_iald mC_92 d92_54 hk hj
theorem d92_55 : decode cX11_thinkMostBack 55 = .ok (.istore_n 3, 1) := by decide +kernel
theorem k92_55 {d : Nat} {l0 l1 l2 l3 l4 : Option PV} {st : List PV} {M : Mem} {Q : Option PV → Mem → Prop} {x : Int32} : WP d 92 55 [l0, l1, l2, l3, l4] (vi x :: st) M Q = WP d 92 56 [l0, l1, l2, some (vi x), l4] (st) M Q := w1 mC_92 d92_55 rfl rfl
theorem d92_56 : decode cX11_thinkMostBack 56 = .ok (.iconst 0, 1) := by decide +kernel
theorem k92_56 {d : Nat} {l0 l1 l2 l3 l4 : Option PV} {st : List PV} {M : Mem} {Q : Option PV → Mem → Prop} : WP d 92 56 [l0, l1, l2, l3, l4] (st) M Q = WP d 92 57 [l0, l1, l2, l3, l4] (vi 0 :: st) M Q := w_iconst mC_92 d92_56 (by decide)
theorem d92_57 : decode cX11_thinkMostBack 57 = .ok (.istore 4, 2) := by decide +kernel
theorem k92_57 {d : Nat} {l0 l1 l2 l3 l4 : Option PV} {st : List PV} {M : Mem} {Q : Option PV → Mem → Prop} {x : Int32} : WP d 92 57 [l0, l1, l2, l3, l4] (vi x :: st) M Q = WP d 92 59 [l0, l1, l2, l3, some (vi x)] (st) M Q := w1 mC_92 d92_57 rfl rfl
theorem d92_59 : decode cX11_thinkMostBack 59 = .ok (.iload 4, 2) := by decide +kernel
theorem k92_59 {d : Nat} {x : Int32} {l0 l1 l2 l3 : Option PV} {st : List PV} {M : Mem} {Q : Option PV → Mem → Prop} : WP d 92 59 [l0, l1, l2, l3, some (vi x)] (st) M Q = WP d 92 61 [l0, l1, l2, l3, some (vi x)] (vi x :: st) M Q := w1 mC_92 d92_59 rfl rfl
theorem d92_61 : decode cX11_thinkMostBack 61 = .ok (.aload_n 0, 1) := by decide +kernel
theorem k92_61 {d x : Nat} {l1 l2 l3 l4 : Option PV} {st : List PV} {M : Mem} {Q : Option PV → Mem → Prop} : WP d 92 61 [some (vr x), l1, l2, l3, l4] (st) M Q = WP d 92 62 [some (vr x), l1, l2, l3, l4] (vr x :: st) M Q := w1 mC_92 d92_61 rfl rfl
theorem d92_62 : decode cX11_thinkMostBack 62 = .ok (.getfield 10, 3) := by decide +kernel
theorem k92_62 {d : Nat} {l0 l1 l2 l3 l4 : Option PV} {st : List PV} {M : Mem} {Q : Option PV → Mem → Prop} {r : Nat} (hk : mK M r = 11) : WP d 92 62 [l0, l1, l2, l3, l4] (vr r :: st) M Q = WP d 92 65 [l0, l1, l2, l3, l4] (vr (mR M r 0) :: st) M Q := w_getr mC_92 d92_62 fE_11_10 rfl (by rw [hk]; rfl)
theorem d92_65 : decode cX11_thinkMostBack 65 = .ok (.getfield 187, 3) := by decide +kernel
theorem k92_65 {d : Nat} {l0 l1 l2 l3 l4 : Option PV} {st : List PV} {M : Mem} {Q : Option PV → Mem → Prop} {r : Nat} (hk : mK M r = 4) : WP d 92 65 [l0, l1, l2, l3, l4] (vr r :: st) M Q = WP d 92 68 [l0, l1, l2, l3, l4] (vi (mI M r 8) :: st) M Q := w_get mC_92 d92_65 fE_11_187 rfl (by rw [hk]; rfl)
theorem d92_68 : decode cX11_thinkMostBack 68 = .ok (.if_icmp .ge 22, 3) := by decide +kernel
theorem k92_68 {d : Nat} {l0 l1 l2 l3 l4 : Option PV} {st : List PV} {M : Mem} {Q : Option PV → Mem → Prop} {x y : Int32} : WP d 92 68 [l0, l1, l2, l3, l4] (vi y :: vi x :: st) M Q = (if y ≤ x then WP d 92 90 [l0, l1, l2, l3, l4] (st) M Q else WP d 92 71 [l0, l1, l2, l3, l4] (st) M Q) := w_ic_ge mC_92 d92_68 (by decide)
theorem d92_71 : decode cX11_thinkMostBack 71 = .ok (.iload_n 3, 1) := by decide +kernel
theorem k92_71 {d : Nat} {x : Int32} {l0 l1 l2 l4 : Option PV} {st : List PV} {M : Mem} {Q : Option PV → Mem → Prop} : WP d 92 71 [l0, l1, l2, some (vi x), l4] (st) M Q = WP d 92 72 [l0, l1, l2, some (vi x), l4] (vi x :: st) M Q := w1 mC_92 d92_71 rfl rfl
theorem d92_72 : decode cX11_thinkMostBack 72 = .ok (.aload_n 0, 1) := by decide +kernel
theorem k92_72 {d x : Nat} {l1 l2 l3 l4 : Option PV} {st : List PV} {M : Mem} {Q : Option PV → Mem → Prop} : WP d 92 72 [some (vr x), l1, l2, l3, l4] (st) M Q = WP d 92 73 [some (vr x), l1, l2, l3, l4] (vr x :: st) M Q := w1 mC_92 d92_72 rfl rfl
theorem d92_73 : decode cX11_thinkMostBack 73 = .ok (.iload_n 1, 1) := by decide +kernel
theorem k92_73 {d : Nat} {x : Int32} {l0 l2 l3 l4 : Option PV} {st : List PV} {M : Mem} {Q : Option PV → Mem → Prop} : WP d 92 73 [l0, some (vi x), l2, l3, l4] (st) M Q = WP d 92 74 [l0, some (vi x), l2, l3, l4] (vi x :: st) M Q := w1 mC_92 d92_73 rfl rfl
theorem d92_74 : decode cX11_thinkMostBack 74 = .ok (.iload 4, 2) := by decide +kernel
theorem k92_74 {d : Nat} {x : Int32} {l0 l1 l2 l3 : Option PV} {st : List PV} {M : Mem} {Q : Option PV → Mem → Prop} : WP d 92 74 [l0, l1, l2, l3, some (vi x)] (st) M Q = WP d 92 76 [l0, l1, l2, l3, some (vi x)] (vi x :: st) M Q := w1 mC_92 d92_74 rfl rfl
theorem d92_76 : decode cX11_thinkMostBack 76 = .ok (.iload_n 2, 1) := by decide +kernel
theorem k92_76 {d : Nat} {x : Int32} {l0 l1 l3 l4 : Option PV} {st : List PV} {M : Mem} {Q : Option PV → Mem → Prop} : WP d 92 76 [l0, l1, some (vi x), l3, l4] (st) M Q = WP d 92 77 [l0, l1, some (vi x), l3, l4] (vi x :: st) M Q := w1 mC_92 d92_76 rfl rfl
theorem d92_77 : decode cX11_thinkMostBack 77 = .ok (.invokevirtual 208, 3) := by decide +kernel
theorem k92_77 {d : Nat} {l0 l1 l2 l3 l4 : Option PV} {st : List PV} {M : Mem} {Q : Option PV → Mem → Prop} {a0 a1 a2 : Int32} {r : Nat} (hl : szL st ≤ 8) (hk : mK M r = 11) : WP (d + 1) 92 77 [l0, l1, l2, l3, l4] (vi a2 :: vi a1 :: vi a0 :: vr r :: st) M Q = WP d 93 0 [some (vr r), some (vi a0), some (vi a1), some (vi a2), none] [] M (fun v M' => WP (d + 1) 92 80 [l0, l1, l2, l3, l4] (psh v st) M' Q) := w_callV mC_92 d92_77 (ci := 11) rfl rfl rfl (Nat.le_of_ble_eq_true rfl) (by decide) rfl hl (Or.inl hk)
theorem d92_80 : decode cX11_thinkMostBack 80 = .ok (.invokestatic 212, 3) := by decide +kernel
theorem k92_80 {d : Nat} {l0 l1 l2 l3 l4 : Option PV} {st : List PV} {M : Mem} {Q : Option PV → Mem → Prop} {x y : Int32} (hl : szL st ≤ 8) : WP d 92 80 [l0, l1, l2, l3, l4] (vi y :: vi x :: st) M Q = WP d 92 83 [l0, l1, l2, l3, l4] (vi (if x < y then y else x) :: st) M Q := w_max mC_92 d92_80 rfl rfl rfl hl
theorem d92_83 : decode cX11_thinkMostBack 83 = .ok (.istore_n 3, 1) := by decide +kernel
theorem k92_83 {d : Nat} {l0 l1 l2 l3 l4 : Option PV} {st : List PV} {M : Mem} {Q : Option PV → Mem → Prop} {x : Int32} : WP d 92 83 [l0, l1, l2, l3, l4] (vi x :: st) M Q = WP d 92 84 [l0, l1, l2, some (vi x), l4] (st) M Q := w1 mC_92 d92_83 rfl rfl
theorem d92_84 : decode cX11_thinkMostBack 84 = .ok (.iinc 4 1, 3) := by decide +kernel
theorem k92_84 {d : Nat} {x : Int32} {l0 l1 l2 l3 : Option PV} {st : List PV} {M : Mem} {Q : Option PV → Mem → Prop} : WP d 92 84 [l0, l1, l2, l3, some (vi x)] (st) M Q = WP d 92 87 [l0, l1, l2, l3, some (vi (x + 1))] (st) M Q := w_iinc mC_92 d92_84 rfl (by decide) rfl
theorem d92_87 : decode cX11_thinkMostBack 87 = .ok (.goto (-28), 3) := by decide +kernel
theorem k92_87 {d : Nat} {l0 l1 l2 l3 l4 : Option PV} {st : List PV} {M : Mem} {Q : Option PV → Mem → Prop} : WP d 92 87 [l0, l1, l2, l3, l4] (st) M Q = WP d 92 59 [l0, l1, l2, l3, l4] (st) M Q := w_goto mC_92 d92_87 (by decide)
theorem d92_90 : decode cX11_thinkMostBack 90 = .ok (.aload_n 0, 1) := by decide +kernel
theorem k92_90 {d x : Nat} {l1 l2 l3 l4 : Option PV} {st : List PV} {M : Mem} {Q : Option PV → Mem → Prop} : WP d 92 90 [some (vr x), l1, l2, l3, l4] (st) M Q = WP d 92 91 [some (vr x), l1, l2, l3, l4] (vr x :: st) M Q := w1 mC_92 d92_90 rfl rfl
theorem d92_91 : decode cX11_thinkMostBack 91 = .ok (.getfield 44, 3) := by decide +kernel
theorem k92_91 {d : Nat} {l0 l1 l2 l3 l4 : Option PV} {st : List PV} {M : Mem} {Q : Option PV → Mem → Prop} {r : Nat} (hk : mK M r = 11) : WP d 92 91 [l0, l1, l2, l3, l4] (vr r :: st) M Q = WP d 92 94 [l0, l1, l2, l3, l4] (vr (mR M r 12) :: st) M Q := w_getr mC_92 d92_91 fE_11_44 rfl (by rw [hk]; rfl)
theorem d92_94 : decode cX11_thinkMostBack 94 = .ok (.iload_n 1, 1) := by decide +kernel
theorem k92_94 {d : Nat} {x : Int32} {l0 l2 l3 l4 : Option PV} {st : List PV} {M : Mem} {Q : Option PV → Mem → Prop} : WP d 92 94 [l0, some (vi x), l2, l3, l4] (st) M Q = WP d 92 95 [l0, some (vi x), l2, l3, l4] (vi x :: st) M Q := w1 mC_92 d92_94 rfl rfl
theorem d92_95 : decode cX11_thinkMostBack 95 = .ok (.aaload, 1) := by decide +kernel
theorem k92_95 {d : Nat} {l0 l1 l2 l3 l4 : Option PV} {st : List PV} {M : Mem} {Q : Option PV → Mem → Prop} {r : Nat} {j : Int32} (hk : mK M r = 15 ∨ mK M r = 16 ∨ mK M r = 17) (hj : inb j (mN M r)) (h1 : r ≠ 1) : WP d 92 95 [l0, l1, l2, l3, l4] (vi j :: vr r :: st) M Q = WP d 92 96 [l0, l1, l2, l3, l4] (vr (mR M r (ix j)) :: st) M Q := w_aald mC_92 d92_95 hk hj h1
theorem d92_96 : decode cX11_thinkMostBack 96 = .ok (.iload_n 2, 1) := by decide +kernel
theorem k92_96 {d : Nat} {x : Int32} {l0 l1 l3 l4 : Option PV} {st : List PV} {M : Mem} {Q : Option PV → Mem → Prop} : WP d 92 96 [l0, l1, some (vi x), l3, l4] (st) M Q = WP d 92 97 [l0, l1, some (vi x), l3, l4] (vi x :: st) M Q := w1 mC_92 d92_96 rfl rfl
theorem d92_97 : decode cX11_thinkMostBack 97 = .ok (.iload_n 3, 1) := by decide +kernel
theorem k92_97 {d : Nat} {x : Int32} {l0 l1 l2 l4 : Option PV} {st : List PV} {M : Mem} {Q : Option PV → Mem → Prop} : WP d 92 97 [l0, l1, l2, some (vi x), l4] (st) M Q = WP d 92 98 [l0, l1, l2, some (vi x), l4] (vi x :: st) M Q := w1 mC_92 d92_97 rfl rfl
theorem d92_98 : decode cX11_thinkMostBack 98 = .ok (.iastore, 1) := by decide +kernel
theorem k92_98 {d : Nat} {l0 l1 l2 l3 l4 : Option PV} {st : List PV} {M : Mem} {Q : Option PV → Mem → Prop} {r : Nat} {j x : Int32} (hk : mK M r = 13) (hj : inb j (mN M r)) (h1 : r ≠ 1) : WP d 92 98 [l0, l1, l2, l3, l4] (vi x :: vi j :: vr r :: st) M Q = WP d 92 99 [l0, l1, l2, l3, l4] (st) (sI M r (ix j) x) Q := w_iast mC_92 d92_98 hk hj h1
theorem d92_99 : decode cX11_thinkMostBack 99 = .ok (.iinc 2 1, 3) := by decide +kernel
theorem k92_99 {d : Nat} {x : Int32} {l0 l1 l3 l4 : Option PV} {st : List PV} {M : Mem} {Q : Option PV → Mem → Prop} : WP d 92 99 [l0, l1, some (vi x), l3, l4] (st) M Q = WP d 92 102 [l0, l1, some (vi (x + 1)), l3, l4] (st) M Q := w_iinc mC_92 d92_99 rfl (by decide) rfl
theorem d92_102 : decode cX11_thinkMostBack 102 = .ok (.goto (-70), 3) := by decide +kernel
theorem k92_102 {d : Nat} {l0 l1 l2 l3 l4 : Option PV} {st : List PV} {M : Mem} {Q : Option PV → Mem → Prop} : WP d 92 102 [l0, l1, l2, l3, l4] (st) M Q = WP d 92 32 [l0, l1, l2, l3, l4] (st) M Q := w_goto mC_92 d92_102 (by decide)
theorem d92_105 : decode cX11_thinkMostBack 105 = .ok (.iinc 1 (-1), 3) := by decide +kernel
theorem k92_105 {d : Nat} {x : Int32} {l0 l2 l3 l4 : Option PV} {st : List PV} {M : Mem} {Q : Option PV → Mem → Prop} : WP d 92 105 [l0, some (vi x), l2, l3, l4] (st) M Q = WP d 92 108 [l0, some (vi (x + (-1))), l2, l3, l4] (st) M Q := w_iinc mC_92 d92_105 rfl (by decide) rfl
theorem d92_108 : decode cX11_thinkMostBack 108 = .ok (.goto (-82), 3) := by decide +kernel
theorem k92_108 {d : Nat} {l0 l1 l2 l3 l4 : Option PV} {st : List PV} {M : Mem} {Q : Option PV → Mem → Prop} : WP d 92 108 [l0, l1, l2, l3, l4] (st) M Q = WP d 92 26 [l0, l1, l2, l3, l4] (st) M Q := w_goto mC_92 d92_108 (by decide)
theorem d92_111 : decode cX11_thinkMostBack 111 = .ok (.return_, 1) := by decide +kernel
theorem k92_111 {d : Nat} {l0 l1 l2 l3 l4 : Option PV} {M : Mem} {Q : Option PV → Mem → Prop} : WP d 92 111 [l0, l1, l2, l3, l4] ([]) M Q = Q none M := w_vret mC_92 d92_111 rfl
theorem d93_0 : decode cX11_backByLending 0 = .ok (.iload_n 3, 1) := by decide +kernel
theorem k93_0 {d : Nat} {x : Int32} {l0 l1 l2 l4 : Option PV} {st : List PV} {M : Mem} {Q : Option PV → Mem → Prop} : WP d 93 0 [l0, l1, l2, some (vi x), l4] (st) M Q = WP d 93 1 [l0, l1, l2, some (vi x), l4] (vi x :: st) M Q := w1 mC_93 d93_0 rfl rfl
theorem d93_1 : decode cX11_backByLending 1 = .ok (.iconst 1, 1) := by decide +kernel
theorem k93_1 {d : Nat} {l0 l1 l2 l3 l4 : Option PV} {st : List PV} {M : Mem} {Q : Option PV → Mem → Prop} : WP d 93 1 [l0, l1, l2, l3, l4] (st) M Q = WP d 93 2 [l0, l1, l2, l3, l4] (vi 1 :: st) M Q := w_iconst mC_93 d93_1 (by decide)
theorem d93_2 : decode cX11_backByLending 2 = .ok (.iload_n 2, 1) := by decide +kernel
theorem k93_2 {d : Nat} {x : Int32} {l0 l1 l3 l4 : Option PV} {st : List PV} {M : Mem} {Q : Option PV → Mem → Prop} : WP d 93 2 [l0, l1, some (vi x), l3, l4] (st) M Q = WP d 93 3 [l0, l1, some (vi x), l3, l4] (vi x :: st) M Q := w1 mC_93 d93_2 rfl rfl
theorem d93_3 : decode cX11_backByLending 3 = .ok (.ishl, 1) := by decide +kernel
theorem k93_3 {d : Nat} {l0 l1 l2 l3 l4 : Option PV} {st : List PV} {M : Mem} {Q : Option PV → Mem → Prop} {x y : Int32} : WP d 93 3 [l0, l1, l2, l3, l4] (vi y :: vi x :: st) M Q = WP d 93 4 [l0, l1, l2, l3, l4] (vi (x <<< (y &&& 31)) :: st) M Q := w1 mC_93 d93_3 rfl rfl
theorem d93_4 : decode cX11_backByLending 4 = .ok (.iand, 1) := by decide +kernel
theorem k93_4 {d : Nat} {l0 l1 l2 l3 l4 : Option PV} {st : List PV} {M : Mem} {Q : Option PV → Mem → Prop} {x y : Int32} : WP d 93 4 [l0, l1, l2, l3, l4] (vi y :: vi x :: st) M Q = WP d 93 5 [l0, l1, l2, l3, l4] (vi (x &&& y) :: st) M Q := w1 mC_93 d93_4 rfl rfl
theorem d93_5 : decode cX11_backByLending 5 = .ok (.ifCond .ne 18, 3) := by decide +kernel
theorem k93_5 {d : Nat} {l0 l1 l2 l3 l4 : Option PV} {st : List PV} {M : Mem} {Q : Option PV → Mem → Prop} {x : Int32} : WP d 93 5 [l0, l1, l2, l3, l4] (vi x :: st) M Q = (if x = 0 then WP d 93 8 [l0, l1, l2, l3, l4] (st) M Q else WP d 93 23 [l0, l1, l2, l3, l4] (st) M Q) := w_if_ne mC_93 d93_5 (by decide)
theorem d93_8 : decode cX11_backByLending 8 = .ok (.aload_n 0, 1) := by decide +kernel
theorem k93_8 {d x : Nat} {l1 l2 l3 l4 : Option PV} {st : List PV} {M : Mem} {Q : Option PV → Mem → Prop} : WP d 93 8 [some (vr x), l1, l2, l3, l4] (st) M Q = WP d 93 9 [some (vr x), l1, l2, l3, l4] (vr x :: st) M Q := w1 mC_93 d93_8 rfl rfl
theorem d93_9 : decode cX11_backByLending 9 = .ok (.getfield 41, 3) := by decide +kernel
theorem k93_9 {d : Nat} {l0 l1 l2 l3 l4 : Option PV} {st : List PV} {M : Mem} {Q : Option PV → Mem → Prop} {r : Nat} (hk : mK M r = 11) : WP d 93 9 [l0, l1, l2, l3, l4] (vr r :: st) M Q = WP d 93 12 [l0, l1, l2, l3, l4] (vr (mR M r 11) :: st) M Q := w_getr mC_93 d93_9 fE_11_41 rfl (by rw [hk]; rfl)
theorem d93_12 : decode cX11_backByLending 12 = .ok (.iload_n 1, 1) := by decide +kernel
theorem k93_12 {d : Nat} {x : Int32} {l0 l2 l3 l4 : Option PV} {st : List PV} {M : Mem} {Q : Option PV → Mem → Prop} : WP d 93 12 [l0, some (vi x), l2, l3, l4] (st) M Q = WP d 93 13 [l0, some (vi x), l2, l3, l4] (vi x :: st) M Q := w1 mC_93 d93_12 rfl rfl
theorem d93_13 : decode cX11_backByLending 13 = .ok (.aaload, 1) := by decide +kernel
theorem k93_13 {d : Nat} {l0 l1 l2 l3 l4 : Option PV} {st : List PV} {M : Mem} {Q : Option PV → Mem → Prop} {r : Nat} {j : Int32} (hk : mK M r = 15 ∨ mK M r = 16 ∨ mK M r = 17) (hj : inb j (mN M r)) (h1 : r ≠ 1) : WP d 93 13 [l0, l1, l2, l3, l4] (vi j :: vr r :: st) M Q = WP d 93 14 [l0, l1, l2, l3, l4] (vr (mR M r (ix j)) :: st) M Q := w_aald mC_93 d93_13 hk hj h1
theorem d93_14 : decode cX11_backByLending 14 = .ok (.iload_n 2, 1) := by decide +kernel
theorem k93_14 {d : Nat} {x : Int32} {l0 l1 l3 l4 : Option PV} {st : List PV} {M : Mem} {Q : Option PV → Mem → Prop} : WP d 93 14 [l0, l1, some (vi x), l3, l4] (st) M Q = WP d 93 15 [l0, l1, some (vi x), l3, l4] (vi x :: st) M Q := w1 mC_93 d93_14 rfl rfl
theorem d93_15 : decode cX11_backByLending 15 = .ok (.iaload, 1) := by decide +kernel
theorem k93_15 {d : Nat} {l0 l1 l2 l3 l4 : Option PV} {st : List PV} {M : Mem} {Q : Option PV → Mem → Prop} {r : Nat} {j : Int32} (hk : mK M r = 13) (hj : inb j (mN M r)) (_h1 : r ≠ 1) : WP d 93 15 [l0, l1, l2, l3, l4] (vi j :: vr r :: st) M Q = WP d 93 16 [l0, l1, l2, l3, l4] (vi (mI M r (ix j)) :: st) M Q := w_iald mC_93 d93_15 hk hj
theorem d93_16 : decode cX11_backByLending 16 = .ok (.ifCond .le 7, 3) := by decide +kernel
theorem k93_16 {d : Nat} {l0 l1 l2 l3 l4 : Option PV} {st : List PV} {M : Mem} {Q : Option PV → Mem → Prop} {x : Int32} : WP d 93 16 [l0, l1, l2, l3, l4] (vi x :: st) M Q = (if x ≤ 0 then WP d 93 23 [l0, l1, l2, l3, l4] (st) M Q else WP d 93 19 [l0, l1, l2, l3, l4] (st) M Q) := w_if_le mC_93 d93_16 (by decide)
theorem d93_19 : decode cX11_backByLending 19 = .ok (.iconst 1, 1) := by decide +kernel
theorem k93_19 {d : Nat} {l0 l1 l2 l3 l4 : Option PV} {st : List PV} {M : Mem} {Q : Option PV → Mem → Prop} : WP d 93 19 [l0, l1, l2, l3, l4] (st) M Q = WP d 93 20 [l0, l1, l2, l3, l4] (vi 1 :: st) M Q := w_iconst mC_93 d93_19 (by decide)
theorem d93_20 : decode cX11_backByLending 20 = .ok (.goto 4, 3) := by decide +kernel
theorem k93_20 {d : Nat} {l0 l1 l2 l3 l4 : Option PV} {st : List PV} {M : Mem} {Q : Option PV → Mem → Prop} : WP d 93 20 [l0, l1, l2, l3, l4] (st) M Q = WP d 93 24 [l0, l1, l2, l3, l4] (st) M Q := w_goto mC_93 d93_20 (by decide)
theorem d93_23 : decode cX11_backByLending 23 = .ok (.iconst 0, 1) := by decide +kernel
theorem k93_23 {d : Nat} {l0 l1 l2 l3 l4 : Option PV} {st : List PV} {M : Mem} {Q : Option PV → Mem → Prop} : WP d 93 23 [l0, l1, l2, l3, l4] (st) M Q = WP d 93 24 [l0, l1, l2, l3, l4] (vi 0 :: st) M Q := w_iconst mC_93 d93_23 (by decide)
theorem d93_24 : decode cX11_backByLending 24 = .ok (.istore 4, 2) := by decide +kernel
theorem k93_24 {d : Nat} {l0 l1 l2 l3 l4 : Option PV} {st : List PV} {M : Mem} {Q : Option PV → Mem → Prop} {x : Int32} : WP d 93 24 [l0, l1, l2, l3, l4] (vi x :: st) M Q = WP d 93 26 [l0, l1, l2, l3, some (vi x)] (st) M Q := w1 mC_93 d93_24 rfl rfl
theorem d93_26 : decode cX11_backByLending 26 = .ok (.iload 4, 2) := by decide +kernel
theorem k93_26 {d : Nat} {x : Int32} {l0 l1 l2 l3 : Option PV} {st : List PV} {M : Mem} {Q : Option PV → Mem → Prop} : WP d 93 26 [l0, l1, l2, l3, some (vi x)] (st) M Q = WP d 93 28 [l0, l1, l2, l3, some (vi x)] (vi x :: st) M Q := w1 mC_93 d93_26 rfl rfl
theorem d93_28 : decode cX11_backByLending 28 = .ok (.ifCond .eq 29, 3) := by decide +kernel
theorem k93_28 {d : Nat} {l0 l1 l2 l3 l4 : Option PV} {st : List PV} {M : Mem} {Q : Option PV → Mem → Prop} {x : Int32} : WP d 93 28 [l0, l1, l2, l3, l4] (vi x :: st) M Q = (if x = 0 then WP d 93 57 [l0, l1, l2, l3, l4] (st) M Q else WP d 93 31 [l0, l1, l2, l3, l4] (st) M Q) := w_if_eq mC_93 d93_28 (by decide)
theorem d93_31 : decode cX11_backByLending 31 = .ok (.aload_n 0, 1) := by decide +kernel
theorem k93_31 {d x : Nat} {l1 l2 l3 l4 : Option PV} {st : List PV} {M : Mem} {Q : Option PV → Mem → Prop} : WP d 93 31 [some (vr x), l1, l2, l3, l4] (st) M Q = WP d 93 32 [some (vr x), l1, l2, l3, l4] (vr x :: st) M Q := w1 mC_93 d93_31 rfl rfl
theorem d93_32 : decode cX11_backByLending 32 = .ok (.getfield 41, 3) := by decide +kernel
theorem k93_32 {d : Nat} {l0 l1 l2 l3 l4 : Option PV} {st : List PV} {M : Mem} {Q : Option PV → Mem → Prop} {r : Nat} (hk : mK M r = 11) : WP d 93 32 [l0, l1, l2, l3, l4] (vr r :: st) M Q = WP d 93 35 [l0, l1, l2, l3, l4] (vr (mR M r 11) :: st) M Q := w_getr mC_93 d93_32 fE_11_41 rfl (by rw [hk]; rfl)
theorem d93_35 : decode cX11_backByLending 35 = .ok (.iload_n 1, 1) := by decide +kernel
theorem k93_35 {d : Nat} {x : Int32} {l0 l2 l3 l4 : Option PV} {st : List PV} {M : Mem} {Q : Option PV → Mem → Prop} : WP d 93 35 [l0, some (vi x), l2, l3, l4] (st) M Q = WP d 93 36 [l0, some (vi x), l2, l3, l4] (vi x :: st) M Q := w1 mC_93 d93_35 rfl rfl
theorem d93_36 : decode cX11_backByLending 36 = .ok (.aaload, 1) := by decide +kernel
theorem k93_36 {d : Nat} {l0 l1 l2 l3 l4 : Option PV} {st : List PV} {M : Mem} {Q : Option PV → Mem → Prop} {r : Nat} {j : Int32} (hk : mK M r = 15 ∨ mK M r = 16 ∨ mK M r = 17) (hj : inb j (mN M r)) (h1 : r ≠ 1) : WP d 93 36 [l0, l1, l2, l3, l4] (vi j :: vr r :: st) M Q = WP d 93 37 [l0, l1, l2, l3, l4] (vr (mR M r (ix j)) :: st) M Q := w_aald mC_93 d93_36 hk hj h1
theorem d93_37 : decode cX11_backByLending 37 = .ok (.iload_n 2, 1) := by decide +kernel
theorem k93_37 {d : Nat} {x : Int32} {l0 l1 l3 l4 : Option PV} {st : List PV} {M : Mem} {Q : Option PV → Mem → Prop} : WP d 93 37 [l0, l1, some (vi x), l3, l4] (st) M Q = WP d 93 38 [l0, l1, some (vi x), l3, l4] (vi x :: st) M Q := w1 mC_93 d93_37 rfl rfl
theorem d93_38 : decode cX11_backByLending 38 = .ok (.iaload, 1) := by decide +kernel
theorem k93_38 {d : Nat} {l0 l1 l2 l3 l4 : Option PV} {st : List PV} {M : Mem} {Q : Option PV → Mem → Prop} {r : Nat} {j : Int32} (hk : mK M r = 13) (hj : inb j (mN M r)) (_h1 : r ≠ 1) : WP d 93 38 [l0, l1, l2, l3, l4] (vi j :: vr r :: st) M Q = WP d 93 39 [l0, l1, l2, l3, l4] (vi (mI M r (ix j)) :: st) M Q := w_iald mC_93 d93_38 hk hj
theorem d93_39 : decode cX11_backByLending 39 = .ok (.aload_n 0, 1) := by decide +kernel
theorem k93_39 {d x : Nat} {l1 l2 l3 l4 : Option PV} {st : List PV} {M : Mem} {Q : Option PV → Mem → Prop} : WP d 93 39 [some (vr x), l1, l2, l3, l4] (st) M Q = WP d 93 40 [some (vr x), l1, l2, l3, l4] (vr x :: st) M Q := w1 mC_93 d93_39 rfl rfl
theorem d93_40 : decode cX11_backByLending 40 = .ok (.getfield 44, 3) := by decide +kernel
theorem k93_40 {d : Nat} {l0 l1 l2 l3 l4 : Option PV} {st : List PV} {M : Mem} {Q : Option PV → Mem → Prop} {r : Nat} (hk : mK M r = 11) : WP d 93 40 [l0, l1, l2, l3, l4] (vr r :: st) M Q = WP d 93 43 [l0, l1, l2, l3, l4] (vr (mR M r 12) :: st) M Q := w_getr mC_93 d93_40 fE_11_44 rfl (by rw [hk]; rfl)
theorem d93_43 : decode cX11_backByLending 43 = .ok (.iload_n 1, 1) := by decide +kernel
theorem k93_43 {d : Nat} {x : Int32} {l0 l2 l3 l4 : Option PV} {st : List PV} {M : Mem} {Q : Option PV → Mem → Prop} : WP d 93 43 [l0, some (vi x), l2, l3, l4] (st) M Q = WP d 93 44 [l0, some (vi x), l2, l3, l4] (vi x :: st) M Q := w1 mC_93 d93_43 rfl rfl
theorem d93_44 : decode cX11_backByLending 44 = .ok (.iconst 1, 1) := by decide +kernel
theorem k93_44 {d : Nat} {l0 l1 l2 l3 l4 : Option PV} {st : List PV} {M : Mem} {Q : Option PV → Mem → Prop} : WP d 93 44 [l0, l1, l2, l3, l4] (st) M Q = WP d 93 45 [l0, l1, l2, l3, l4] (vi 1 :: st) M Q := w_iconst mC_93 d93_44 (by decide)
theorem d93_45 : decode cX11_backByLending 45 = .ok (.iadd, 1) := by decide +kernel
theorem k93_45 {d : Nat} {l0 l1 l2 l3 l4 : Option PV} {st : List PV} {M : Mem} {Q : Option PV → Mem → Prop} {x y : Int32} : WP d 93 45 [l0, l1, l2, l3, l4] (vi y :: vi x :: st) M Q = WP d 93 46 [l0, l1, l2, l3, l4] (vi (x + y) :: st) M Q := w1 mC_93 d93_45 rfl rfl
theorem d93_46 : decode cX11_backByLending 46 = .ok (.aaload, 1) := by decide +kernel
theorem k93_46 {d : Nat} {l0 l1 l2 l3 l4 : Option PV} {st : List PV} {M : Mem} {Q : Option PV → Mem → Prop} {r : Nat} {j : Int32} (hk : mK M r = 15 ∨ mK M r = 16 ∨ mK M r = 17) (hj : inb j (mN M r)) (h1 : r ≠ 1) : WP d 93 46 [l0, l1, l2, l3, l4] (vi j :: vr r :: st) M Q = WP d 93 47 [l0, l1, l2, l3, l4] (vr (mR M r (ix j)) :: st) M Q := w_aald mC_93 d93_46 hk hj h1
theorem d93_47 : decode cX11_backByLending 47 = .ok (.iload_n 3, 1) := by decide +kernel
theorem k93_47 {d : Nat} {x : Int32} {l0 l1 l2 l4 : Option PV} {st : List PV} {M : Mem} {Q : Option PV → Mem → Prop} : WP d 93 47 [l0, l1, l2, some (vi x), l4] (st) M Q = WP d 93 48 [l0, l1, l2, some (vi x), l4] (vi x :: st) M Q := w1 mC_93 d93_47 rfl rfl
theorem d93_48 : decode cX11_backByLending 48 = .ok (.iconst 1, 1) := by decide +kernel
theorem k93_48 {d : Nat} {l0 l1 l2 l3 l4 : Option PV} {st : List PV} {M : Mem} {Q : Option PV → Mem → Prop} : WP d 93 48 [l0, l1, l2, l3, l4] (st) M Q = WP d 93 49 [l0, l1, l2, l3, l4] (vi 1 :: st) M Q := w_iconst mC_93 d93_48 (by decide)
theorem d93_49 : decode cX11_backByLending 49 = .ok (.iload_n 2, 1) := by decide +kernel
theorem k93_49 {d : Nat} {x : Int32} {l0 l1 l3 l4 : Option PV} {st : List PV} {M : Mem} {Q : Option PV → Mem → Prop} : WP d 93 49 [l0, l1, some (vi x), l3, l4] (st) M Q = WP d 93 50 [l0, l1, some (vi x), l3, l4] (vi x :: st) M Q := w1 mC_93 d93_49 rfl rfl
theorem d93_50 : decode cX11_backByLending 50 = .ok (.ishl, 1) := by decide +kernel
theorem k93_50 {d : Nat} {l0 l1 l2 l3 l4 : Option PV} {st : List PV} {M : Mem} {Q : Option PV → Mem → Prop} {x y : Int32} : WP d 93 50 [l0, l1, l2, l3, l4] (vi y :: vi x :: st) M Q = WP d 93 51 [l0, l1, l2, l3, l4] (vi (x <<< (y &&& 31)) :: st) M Q := w1 mC_93 d93_50 rfl rfl
theorem d93_51 : decode cX11_backByLending 51 = .ok (.ior, 1) := by decide +kernel
theorem k93_51 {d : Nat} {l0 l1 l2 l3 l4 : Option PV} {st : List PV} {M : Mem} {Q : Option PV → Mem → Prop} {x y : Int32} : WP d 93 51 [l0, l1, l2, l3, l4] (vi y :: vi x :: st) M Q = WP d 93 52 [l0, l1, l2, l3, l4] (vi (x ||| y) :: st) M Q := w1 mC_93 d93_51 rfl rfl
theorem d93_52 : decode cX11_backByLending 52 = .ok (.iaload, 1) := by decide +kernel
theorem k93_52 {d : Nat} {l0 l1 l2 l3 l4 : Option PV} {st : List PV} {M : Mem} {Q : Option PV → Mem → Prop} {r : Nat} {j : Int32} (hk : mK M r = 13) (hj : inb j (mN M r)) (_h1 : r ≠ 1) : WP d 93 52 [l0, l1, l2, l3, l4] (vi j :: vr r :: st) M Q = WP d 93 53 [l0, l1, l2, l3, l4] (vi (mI M r (ix j)) :: st) M Q := w_iald mC_93 d93_52 hk hj
theorem d93_53 : decode cX11_backByLending 53 = .ok (.iadd, 1) := by decide +kernel
theorem k93_53 {d : Nat} {l0 l1 l2 l3 l4 : Option PV} {st : List PV} {M : Mem} {Q : Option PV → Mem → Prop} {x y : Int32} : WP d 93 53 [l0, l1, l2, l3, l4] (vi y :: vi x :: st) M Q = WP d 93 54 [l0, l1, l2, l3, l4] (vi (x + y) :: st) M Q := w1 mC_93 d93_53 rfl rfl
theorem d93_54 : decode cX11_backByLending 54 = .ok (.goto 4, 3) := by decide +kernel
theorem k93_54 {d : Nat} {l0 l1 l2 l3 l4 : Option PV} {st : List PV} {M : Mem} {Q : Option PV → Mem → Prop} : WP d 93 54 [l0, l1, l2, l3, l4] (st) M Q = WP d 93 58 [l0, l1, l2, l3, l4] (st) M Q := w_goto mC_93 d93_54 (by decide)
theorem d93_57 : decode cX11_backByLending 57 = .ok (.iconst 0, 1) := by decide +kernel
theorem k93_57 {d : Nat} {l0 l1 l2 l3 l4 : Option PV} {st : List PV} {M : Mem} {Q : Option PV → Mem → Prop} : WP d 93 57 [l0, l1, l2, l3, l4] (st) M Q = WP d 93 58 [l0, l1, l2, l3, l4] (vi 0 :: st) M Q := w_iconst mC_93 d93_57 (by decide)
theorem d93_58 : decode cX11_backByLending 58 = .ok (.ireturn, 1) := by decide +kernel
theorem k93_58 {d : Nat} {l0 l1 l2 l3 l4 : Option PV} {M : Mem} {Q : Option PV → Mem → Prop} {x : Int32} : WP d 93 58 [l0, l1, l2, l3, l4] ([vi x]) M Q = Q (some (vi x)) M := w_iret mC_93 d93_58 rfl
theorem d94_0 : decode cX11_frogDealtTo 0 = .ok (.iconst 0, 1) := by decide +kernel
theorem k94_0 {d : Nat} {l0 l1 l2 l3 l4 : Option PV} {st : List PV} {M : Mem} {Q : Option PV → Mem → Prop} : WP d 94 0 [l0, l1, l2, l3, l4] (st) M Q = WP d 94 1 [l0, l1, l2, l3, l4] (vi 0 :: st) M Q := w_iconst mC_94 d94_0 (by decide)
theorem d94_1 : decode cX11_frogDealtTo 1 = .ok (.istore_n 2, 1) := by decide +kernel
theorem k94_1 {d : Nat} {l0 l1 l2 l3 l4 : Option PV} {st : List PV} {M : Mem} {Q : Option PV → Mem → Prop} {x : Int32} : WP d 94 1 [l0, l1, l2, l3, l4] (vi x :: st) M Q = WP d 94 2 [l0, l1, some (vi x), l3, l4] (st) M Q := w1 mC_94 d94_1 rfl rfl
theorem d94_2 : decode cX11_frogDealtTo 2 = .ok (.bipush 9, 2) := by decide +kernel
theorem k94_2 {d : Nat} {l0 l1 l2 l3 l4 : Option PV} {st : List PV} {M : Mem} {Q : Option PV → Mem → Prop} : WP d 94 2 [l0, l1, l2, l3, l4] (st) M Q = WP d 94 4 [l0, l1, l2, l3, l4] (vi 9 :: st) M Q := w_bipush mC_94 d94_2 (by decide)
theorem d94_4 : decode cX11_frogDealtTo 4 = .ok (.istore_n 3, 1) := by decide +kernel
theorem k94_4 {d : Nat} {l0 l1 l2 l3 l4 : Option PV} {st : List PV} {M : Mem} {Q : Option PV → Mem → Prop} {x : Int32} : WP d 94 4 [l0, l1, l2, l3, l4] (vi x :: st) M Q = WP d 94 5 [l0, l1, l2, some (vi x), l4] (st) M Q := w1 mC_94 d94_4 rfl rfl
theorem d94_5 : decode cX11_frogDealtTo 5 = .ok (.iconst 0, 1) := by decide +kernel
theorem k94_5 {d : Nat} {l0 l1 l2 l3 l4 : Option PV} {st : List PV} {M : Mem} {Q : Option PV → Mem → Prop} : WP d 94 5 [l0, l1, l2, l3, l4] (st) M Q = WP d 94 6 [l0, l1, l2, l3, l4] (vi 0 :: st) M Q := w_iconst mC_94 d94_5 (by decide)
theorem d94_6 : decode cX11_frogDealtTo 6 = .ok (.istore 4, 2) := by decide +kernel
theorem k94_6 {d : Nat} {l0 l1 l2 l3 l4 : Option PV} {st : List PV} {M : Mem} {Q : Option PV → Mem → Prop} {x : Int32} : WP d 94 6 [l0, l1, l2, l3, l4] (vi x :: st) M Q = WP d 94 8 [l0, l1, l2, l3, some (vi x)] (st) M Q := w1 mC_94 d94_6 rfl rfl
theorem d94_8 : decode cX11_frogDealtTo 8 = .ok (.iload 4, 2) := by decide +kernel
theorem k94_8 {d : Nat} {x : Int32} {l0 l1 l2 l3 : Option PV} {st : List PV} {M : Mem} {Q : Option PV → Mem → Prop} : WP d 94 8 [l0, l1, l2, l3, some (vi x)] (st) M Q = WP d 94 10 [l0, l1, l2, l3, some (vi x)] (vi x :: st) M Q := w1 mC_94 d94_8 rfl rfl
theorem d94_10 : decode cX11_frogDealtTo 10 = .ok (.iload_n 1, 1) := by decide +kernel
theorem k94_10 {d : Nat} {x : Int32} {l0 l2 l3 l4 : Option PV} {st : List PV} {M : Mem} {Q : Option PV → Mem → Prop} : WP d 94 10 [l0, some (vi x), l2, l3, l4] (st) M Q = WP d 94 11 [l0, some (vi x), l2, l3, l4] (vi x :: st) M Q := w1 mC_94 d94_10 rfl rfl
theorem d94_11 : decode cX11_frogDealtTo 11 = .ok (.if_icmp .gt 33, 3) := by decide +kernel
theorem k94_11 {d : Nat} {l0 l1 l2 l3 l4 : Option PV} {st : List PV} {M : Mem} {Q : Option PV → Mem → Prop} {x y : Int32} : WP d 94 11 [l0, l1, l2, l3, l4] (vi y :: vi x :: st) M Q = (if y < x then WP d 94 44 [l0, l1, l2, l3, l4] (st) M Q else WP d 94 14 [l0, l1, l2, l3, l4] (st) M Q) := w_ic_gt mC_94 d94_11 (by decide)
theorem d94_14 : decode cX11_frogDealtTo 14 = .ok (.aload_n 0, 1) := by decide +kernel
theorem k94_14 {d x : Nat} {l1 l2 l3 l4 : Option PV} {st : List PV} {M : Mem} {Q : Option PV → Mem → Prop} : WP d 94 14 [some (vr x), l1, l2, l3, l4] (st) M Q = WP d 94 15 [some (vr x), l1, l2, l3, l4] (vr x :: st) M Q := w1 mC_94 d94_14 rfl rfl
theorem d94_15 : decode cX11_frogDealtTo 15 = .ok (.iload 4, 2) := by decide +kernel
theorem k94_15 {d : Nat} {x : Int32} {l0 l1 l2 l3 : Option PV} {st : List PV} {M : Mem} {Q : Option PV → Mem → Prop} : WP d 94 15 [l0, l1, l2, l3, some (vi x)] (st) M Q = WP d 94 17 [l0, l1, l2, l3, some (vi x)] (vi x :: st) M Q := w1 mC_94 d94_15 rfl rfl
theorem d94_17 : decode cX11_frogDealtTo 17 = .ok (.iload_n 2, 1) := by decide +kernel
theorem k94_17 {d : Nat} {x : Int32} {l0 l1 l3 l4 : Option PV} {st : List PV} {M : Mem} {Q : Option PV → Mem → Prop} : WP d 94 17 [l0, l1, some (vi x), l3, l4] (st) M Q = WP d 94 18 [l0, l1, some (vi x), l3, l4] (vi x :: st) M Q := w1 mC_94 d94_17 rfl rfl
theorem d94_18 : decode cX11_frogDealtTo 18 = .ok (.invokevirtual 217, 3) := by decide +kernel
theorem k94_18 {d : Nat} {l0 l1 l2 l3 l4 : Option PV} {st : List PV} {M : Mem} {Q : Option PV → Mem → Prop} {a0 a1 : Int32} {r : Nat} (hl : szL st ≤ 8) (hk : mK M r = 11) : WP (d + 1) 94 18 [l0, l1, l2, l3, l4] (vi a1 :: vi a0 :: vr r :: st) M Q = WP d 95 0 [some (vr r), some (vi a0), some (vi a1), none, none] [] M (fun v M' => WP (d + 1) 94 21 [l0, l1, l2, l3, l4] (psh v st) M' Q) := w_callV mC_94 d94_18 (ci := 11) rfl rfl rfl (Nat.le_of_ble_eq_true rfl) (by decide) rfl hl (Or.inl hk)
theorem d94_21 : decode cX11_frogDealtTo 21 = .ok (.istore_n 3, 1) := by decide +kernel
theorem k94_21 {d : Nat} {l0 l1 l2 l3 l4 : Option PV} {st : List PV} {M : Mem} {Q : Option PV → Mem → Prop} {x : Int32} : WP d 94 21 [l0, l1, l2, l3, l4] (vi x :: st) M Q = WP d 94 22 [l0, l1, l2, some (vi x), l4] (st) M Q := w1 mC_94 d94_21 rfl rfl
theorem d94_22 : decode cX11_frogDealtTo 22 = .ok (.iload_n 3, 1) := by decide +kernel
theorem k94_22 {d : Nat} {x : Int32} {l0 l1 l2 l4 : Option PV} {st : List PV} {M : Mem} {Q : Option PV → Mem → Prop} : WP d 94 22 [l0, l1, l2, some (vi x), l4] (st) M Q = WP d 94 23 [l0, l1, l2, some (vi x), l4] (vi x :: st) M Q := w1 mC_94 d94_22 rfl rfl
theorem d94_23 : decode cX11_frogDealtTo 23 = .ok (.bipush 9, 2) := by decide +kernel
theorem k94_23 {d : Nat} {l0 l1 l2 l3 l4 : Option PV} {st : List PV} {M : Mem} {Q : Option PV → Mem → Prop} : WP d 94 23 [l0, l1, l2, l3, l4] (st) M Q = WP d 94 25 [l0, l1, l2, l3, l4] (vi 9 :: st) M Q := w_bipush mC_94 d94_23 (by decide)
theorem d94_25 : decode cX11_frogDealtTo 25 = .ok (.if_icmp .ne 7, 3) := by decide +kernel
theorem k94_25 {d : Nat} {l0 l1 l2 l3 l4 : Option PV} {st : List PV} {M : Mem} {Q : Option PV → Mem → Prop} {x y : Int32} : WP d 94 25 [l0, l1, l2, l3, l4] (vi y :: vi x :: st) M Q = (if x = y then WP d 94 28 [l0, l1, l2, l3, l4] (st) M Q else WP d 94 32 [l0, l1, l2, l3, l4] (st) M Q) := w_ic_ne mC_94 d94_25 (by decide)
theorem d94_28 : decode cX11_frogDealtTo 28 = .ok (.iload_n 2, 1) := by decide +kernel
theorem k94_28 {d : Nat} {x : Int32} {l0 l1 l3 l4 : Option PV} {st : List PV} {M : Mem} {Q : Option PV → Mem → Prop} : WP d 94 28 [l0, l1, some (vi x), l3, l4] (st) M Q = WP d 94 29 [l0, l1, some (vi x), l3, l4] (vi x :: st) M Q := w1 mC_94 d94_28 rfl rfl
theorem d94_29 : decode cX11_frogDealtTo 29 = .ok (.goto 8, 3) := by decide +kernel
theorem k94_29 {d : Nat} {l0 l1 l2 l3 l4 : Option PV} {st : List PV} {M : Mem} {Q : Option PV → Mem → Prop} : WP d 94 29 [l0, l1, l2, l3, l4] (st) M Q = WP d 94 37 [l0, l1, l2, l3, l4] (st) M Q := w_goto mC_94 d94_29 (by decide)
theorem d94_32 : decode cX11_frogDealtTo 32 = .ok (.iload_n 2, 1) := by decide +kernel
theorem k94_32 {d : Nat} {x : Int32} {l0 l1 l3 l4 : Option PV} {st : List PV} {M : Mem} {Q : Option PV → Mem → Prop} : WP d 94 32 [l0, l1, some (vi x), l3, l4] (st) M Q = WP d 94 33 [l0, l1, some (vi x), l3, l4] (vi x :: st) M Q := w1 mC_94 d94_32 rfl rfl
theorem d94_33 : decode cX11_frogDealtTo 33 = .ok (.iconst 1, 1) := by decide +kernel
theorem k94_33 {d : Nat} {l0 l1 l2 l3 l4 : Option PV} {st : List PV} {M : Mem} {Q : Option PV → Mem → Prop} : WP d 94 33 [l0, l1, l2, l3, l4] (st) M Q = WP d 94 34 [l0, l1, l2, l3, l4] (vi 1 :: st) M Q := w_iconst mC_94 d94_33 (by decide)
theorem d94_34 : decode cX11_frogDealtTo 34 = .ok (.iload_n 3, 1) := by decide +kernel
theorem k94_34 {d : Nat} {x : Int32} {l0 l1 l2 l4 : Option PV} {st : List PV} {M : Mem} {Q : Option PV → Mem → Prop} : WP d 94 34 [l0, l1, l2, some (vi x), l4] (st) M Q = WP d 94 35 [l0, l1, l2, some (vi x), l4] (vi x :: st) M Q := w1 mC_94 d94_34 rfl rfl
theorem d94_35 : decode cX11_frogDealtTo 35 = .ok (.ishl, 1) := by decide +kernel
theorem k94_35 {d : Nat} {l0 l1 l2 l3 l4 : Option PV} {st : List PV} {M : Mem} {Q : Option PV → Mem → Prop} {x y : Int32} : WP d 94 35 [l0, l1, l2, l3, l4] (vi y :: vi x :: st) M Q = WP d 94 36 [l0, l1, l2, l3, l4] (vi (x <<< (y &&& 31)) :: st) M Q := w1 mC_94 d94_35 rfl rfl
theorem d94_36 : decode cX11_frogDealtTo 36 = .ok (.ior, 1) := by decide +kernel
theorem k94_36 {d : Nat} {l0 l1 l2 l3 l4 : Option PV} {st : List PV} {M : Mem} {Q : Option PV → Mem → Prop} {x y : Int32} : WP d 94 36 [l0, l1, l2, l3, l4] (vi y :: vi x :: st) M Q = WP d 94 37 [l0, l1, l2, l3, l4] (vi (x ||| y) :: st) M Q := w1 mC_94 d94_36 rfl rfl
theorem d94_37 : decode cX11_frogDealtTo 37 = .ok (.istore_n 2, 1) := by decide +kernel
theorem k94_37 {d : Nat} {l0 l1 l2 l3 l4 : Option PV} {st : List PV} {M : Mem} {Q : Option PV → Mem → Prop} {x : Int32} : WP d 94 37 [l0, l1, l2, l3, l4] (vi x :: st) M Q = WP d 94 38 [l0, l1, some (vi x), l3, l4] (st) M Q := w1 mC_94 d94_37 rfl rfl
theorem d94_38 : decode cX11_frogDealtTo 38 = .ok (.iinc 4 1, 3) := by decide +kernel
theorem k94_38 {d : Nat} {x : Int32} {l0 l1 l2 l3 : Option PV} {st : List PV} {M : Mem} {Q : Option PV → Mem → Prop} : WP d 94 38 [l0, l1, l2, l3, some (vi x)] (st) M Q = WP d 94 41 [l0, l1, l2, l3, some (vi (x + 1))] (st) M Q := w_iinc mC_94 d94_38 rfl (by decide) rfl
theorem d94_41 : decode cX11_frogDealtTo 41 = .ok (.goto (-33), 3) := by decide +kernel
theorem k94_41 {d : Nat} {l0 l1 l2 l3 l4 : Option PV} {st : List PV} {M : Mem} {Q : Option PV → Mem → Prop} : WP d 94 41 [l0, l1, l2, l3, l4] (st) M Q = WP d 94 8 [l0, l1, l2, l3, l4] (st) M Q := w_goto mC_94 d94_41 (by decide)
theorem d94_44 : decode cX11_frogDealtTo 44 = .ok (.iload_n 3, 1) := by decide +kernel
theorem k94_44 {d : Nat} {x : Int32} {l0 l1 l2 l4 : Option PV} {st : List PV} {M : Mem} {Q : Option PV → Mem → Prop} : WP d 94 44 [l0, l1, l2, some (vi x), l4] (st) M Q = WP d 94 45 [l0, l1, l2, some (vi x), l4] (vi x :: st) M Q := w1 mC_94 d94_44 rfl rfl
theorem d94_45 : decode cX11_frogDealtTo 45 = .ok (.ireturn, 1) := by decide +kernel
theorem k94_45 {d : Nat} {l0 l1 l2 l3 l4 : Option PV} {M : Mem} {Q : Option PV → Mem → Prop} {x : Int32} : WP d 94 45 [l0, l1, l2, l3, l4] ([vi x]) M Q = Q (some (vi x)) M := w_iret mC_94 d94_45 rfl
theorem d95_0 : decode cX11_firstBestFrog 0 = .ok (.iconst 0, 1) := by decide +kernel
theorem k95_0 {d : Nat} {l0 l1 l2 l3 l4 : Option PV} {st : List PV} {M : Mem} {Q : Option PV → Mem → Prop} : WP d 95 0 [l0, l1, l2, l3, l4] (st) M Q = WP d 95 1 [l0, l1, l2, l3, l4] (vi 0 :: st) M Q := w_iconst mC_95 d95_0 (by decide)
theorem d95_1 : decode cX11_firstBestFrog 1 = .ok (.istore_n 3, 1) := by decide +kernel
theorem k95_1 {d : Nat} {l0 l1 l2 l3 l4 : Option PV} {st : List PV} {M : Mem} {Q : Option PV → Mem → Prop} {x : Int32} : WP d 95 1 [l0, l1, l2, l3, l4] (vi x :: st) M Q = WP d 95 2 [l0, l1, l2, some (vi x), l4] (st) M Q := w1 mC_95 d95_1 rfl rfl
theorem d95_2 : decode cX11_firstBestFrog 2 = .ok (.iload_n 3, 1) := by decide +kernel
theorem k95_2 {d : Nat} {x : Int32} {l0 l1 l2 l4 : Option PV} {st : List PV} {M : Mem} {Q : Option PV → Mem → Prop} : WP d 95 2 [l0, l1, l2, some (vi x), l4] (st) M Q = WP d 95 3 [l0, l1, l2, some (vi x), l4] (vi x :: st) M Q := w1 mC_95 d95_2 rfl rfl
theorem d95_3 : decode cX11_firstBestFrog 3 = .ok (.aload_n 0, 1) := by decide +kernel
theorem k95_3 {d x : Nat} {l1 l2 l3 l4 : Option PV} {st : List PV} {M : Mem} {Q : Option PV → Mem → Prop} : WP d 95 3 [some (vr x), l1, l2, l3, l4] (st) M Q = WP d 95 4 [some (vr x), l1, l2, l3, l4] (vr x :: st) M Q := w1 mC_95 d95_3 rfl rfl
theorem d95_4 : decode cX11_firstBestFrog 4 = .ok (.getfield 10, 3) := by decide +kernel
theorem k95_4 {d : Nat} {l0 l1 l2 l3 l4 : Option PV} {st : List PV} {M : Mem} {Q : Option PV → Mem → Prop} {r : Nat} (hk : mK M r = 11) : WP d 95 4 [l0, l1, l2, l3, l4] (vr r :: st) M Q = WP d 95 7 [l0, l1, l2, l3, l4] (vr (mR M r 0) :: st) M Q := w_getr mC_95 d95_4 fE_11_10 rfl (by rw [hk]; rfl)
theorem d95_7 : decode cX11_firstBestFrog 7 = .ok (.getfield 187, 3) := by decide +kernel
theorem k95_7 {d : Nat} {l0 l1 l2 l3 l4 : Option PV} {st : List PV} {M : Mem} {Q : Option PV → Mem → Prop} {r : Nat} (hk : mK M r = 4) : WP d 95 7 [l0, l1, l2, l3, l4] (vr r :: st) M Q = WP d 95 10 [l0, l1, l2, l3, l4] (vi (mI M r 8) :: st) M Q := w_get mC_95 d95_7 fE_11_187 rfl (by rw [hk]; rfl)
theorem d95_10 : decode cX11_firstBestFrog 10 = .ok (.if_icmp .ge 38, 3) := by decide +kernel
theorem k95_10 {d : Nat} {l0 l1 l2 l3 l4 : Option PV} {st : List PV} {M : Mem} {Q : Option PV → Mem → Prop} {x y : Int32} : WP d 95 10 [l0, l1, l2, l3, l4] (vi y :: vi x :: st) M Q = (if y ≤ x then WP d 95 48 [l0, l1, l2, l3, l4] (st) M Q else WP d 95 13 [l0, l1, l2, l3, l4] (st) M Q) := w_ic_ge mC_95 d95_10 (by decide)
theorem d95_13 : decode cX11_firstBestFrog 13 = .ok (.aload_n 0, 1) := by decide +kernel
theorem k95_13 {d x : Nat} {l1 l2 l3 l4 : Option PV} {st : List PV} {M : Mem} {Q : Option PV → Mem → Prop} : WP d 95 13 [some (vr x), l1, l2, l3, l4] (st) M Q = WP d 95 14 [some (vr x), l1, l2, l3, l4] (vr x :: st) M Q := w1 mC_95 d95_13 rfl rfl
theorem d95_14 : decode cX11_firstBestFrog 14 = .ok (.iload_n 1, 1) := by decide +kernel
theorem k95_14 {d : Nat} {x : Int32} {l0 l2 l3 l4 : Option PV} {st : List PV} {M : Mem} {Q : Option PV → Mem → Prop} : WP d 95 14 [l0, some (vi x), l2, l3, l4] (st) M Q = WP d 95 15 [l0, some (vi x), l2, l3, l4] (vi x :: st) M Q := w1 mC_95 d95_14 rfl rfl
theorem d95_15 : decode cX11_firstBestFrog 15 = .ok (.iload_n 3, 1) := by decide +kernel
theorem k95_15 {d : Nat} {x : Int32} {l0 l1 l2 l4 : Option PV} {st : List PV} {M : Mem} {Q : Option PV → Mem → Prop} : WP d 95 15 [l0, l1, l2, some (vi x), l4] (st) M Q = WP d 95 16 [l0, l1, l2, some (vi x), l4] (vi x :: st) M Q := w1 mC_95 d95_15 rfl rfl
theorem d95_16 : decode cX11_firstBestFrog 16 = .ok (.iload_n 2, 1) := by decide +kernel
theorem k95_16 {d : Nat} {x : Int32} {l0 l1 l3 l4 : Option PV} {st : List PV} {M : Mem} {Q : Option PV → Mem → Prop} : WP d 95 16 [l0, l1, some (vi x), l3, l4] (st) M Q = WP d 95 17 [l0, l1, some (vi x), l3, l4] (vi x :: st) M Q := w1 mC_95 d95_16 rfl rfl
theorem d95_17 : decode cX11_firstBestFrog 17 = .ok (.invokevirtual 208, 3) := by decide +kernel
theorem k95_17 {d : Nat} {l0 l1 l2 l3 l4 : Option PV} {st : List PV} {M : Mem} {Q : Option PV → Mem → Prop} {a0 a1 a2 : Int32} {r : Nat} (hl : szL st ≤ 8) (hk : mK M r = 11) : WP (d + 1) 95 17 [l0, l1, l2, l3, l4] (vi a2 :: vi a1 :: vi a0 :: vr r :: st) M Q = WP d 93 0 [some (vr r), some (vi a0), some (vi a1), some (vi a2), none] [] M (fun v M' => WP (d + 1) 95 20 [l0, l1, l2, l3, l4] (psh v st) M' Q) := w_callV mC_95 d95_17 (ci := 11) rfl rfl rfl (Nat.le_of_ble_eq_true rfl) (by decide) rfl hl (Or.inl hk)
theorem d95_20 : decode cX11_firstBestFrog 20 = .ok (.istore 4, 2) := by decide +kernel
theorem k95_20 {d : Nat} {l0 l1 l2 l3 l4 : Option PV} {st : List PV} {M : Mem} {Q : Option PV → Mem → Prop} {x : Int32} : WP d 95 20 [l0, l1, l2, l3, l4] (vi x :: st) M Q = WP d 95 22 [l0, l1, l2, l3, some (vi x)] (st) M Q := w1 mC_95 d95_20 rfl rfl
theorem d95_22 : decode cX11_firstBestFrog 22 = .ok (.iload 4, 2) := by decide +kernel
theorem k95_22 {d : Nat} {x : Int32} {l0 l1 l2 l3 : Option PV} {st : List PV} {M : Mem} {Q : Option PV → Mem → Prop} : WP d 95 22 [l0, l1, l2, l3, some (vi x)] (st) M Q = WP d 95 24 [l0, l1, l2, l3, some (vi x)] (vi x :: st) M Q := w1 mC_95 d95_22 rfl rfl
theorem d95_24 : decode cX11_firstBestFrog 24 = .ok (.ifCond .le 18, 3) := by decide +kernel
theorem k95_24 {d : Nat} {l0 l1 l2 l3 l4 : Option PV} {st : List PV} {M : Mem} {Q : Option PV → Mem → Prop} {x : Int32} : WP d 95 24 [l0, l1, l2, l3, l4] (vi x :: st) M Q = (if x ≤ 0 then WP d 95 42 [l0, l1, l2, l3, l4] (st) M Q else WP d 95 27 [l0, l1, l2, l3, l4] (st) M Q) := w_if_le mC_95 d95_24 (by decide)
theorem d95_27 : decode cX11_firstBestFrog 27 = .ok (.iload 4, 2) := by decide +kernel
theorem k95_27 {d : Nat} {x : Int32} {l0 l1 l2 l3 : Option PV} {st : List PV} {M : Mem} {Q : Option PV → Mem → Prop} : WP d 95 27 [l0, l1, l2, l3, some (vi x)] (st) M Q = WP d 95 29 [l0, l1, l2, l3, some (vi x)] (vi x :: st) M Q := w1 mC_95 d95_27 rfl rfl
theorem d95_29 : decode cX11_firstBestFrog 29 = .ok (.aload_n 0, 1) := by decide +kernel
theorem k95_29 {d x : Nat} {l1 l2 l3 l4 : Option PV} {st : List PV} {M : Mem} {Q : Option PV → Mem → Prop} : WP d 95 29 [some (vr x), l1, l2, l3, l4] (st) M Q = WP d 95 30 [some (vr x), l1, l2, l3, l4] (vr x :: st) M Q := w1 mC_95 d95_29 rfl rfl
theorem d95_30 : decode cX11_firstBestFrog 30 = .ok (.getfield 44, 3) := by decide +kernel
theorem k95_30 {d : Nat} {l0 l1 l2 l3 l4 : Option PV} {st : List PV} {M : Mem} {Q : Option PV → Mem → Prop} {r : Nat} (hk : mK M r = 11) : WP d 95 30 [l0, l1, l2, l3, l4] (vr r :: st) M Q = WP d 95 33 [l0, l1, l2, l3, l4] (vr (mR M r 12) :: st) M Q := w_getr mC_95 d95_30 fE_11_44 rfl (by rw [hk]; rfl)
theorem d95_33 : decode cX11_firstBestFrog 33 = .ok (.iload_n 1, 1) := by decide +kernel
theorem k95_33 {d : Nat} {x : Int32} {l0 l2 l3 l4 : Option PV} {st : List PV} {M : Mem} {Q : Option PV → Mem → Prop} : WP d 95 33 [l0, some (vi x), l2, l3, l4] (st) M Q = WP d 95 34 [l0, some (vi x), l2, l3, l4] (vi x :: st) M Q := w1 mC_95 d95_33 rfl rfl
theorem d95_34 : decode cX11_firstBestFrog 34 = .ok (.aaload, 1) := by decide +kernel
theorem k95_34 {d : Nat} {l0 l1 l2 l3 l4 : Option PV} {st : List PV} {M : Mem} {Q : Option PV → Mem → Prop} {r : Nat} {j : Int32} (hk : mK M r = 15 ∨ mK M r = 16 ∨ mK M r = 17) (hj : inb j (mN M r)) (h1 : r ≠ 1) : WP d 95 34 [l0, l1, l2, l3, l4] (vi j :: vr r :: st) M Q = WP d 95 35 [l0, l1, l2, l3, l4] (vr (mR M r (ix j)) :: st) M Q := w_aald mC_95 d95_34 hk hj h1
theorem d95_35 : decode cX11_firstBestFrog 35 = .ok (.iload_n 2, 1) := by decide +kernel
theorem k95_35 {d : Nat} {x : Int32} {l0 l1 l3 l4 : Option PV} {st : List PV} {M : Mem} {Q : Option PV → Mem → Prop} : WP d 95 35 [l0, l1, some (vi x), l3, l4] (st) M Q = WP d 95 36 [l0, l1, some (vi x), l3, l4] (vi x :: st) M Q := w1 mC_95 d95_35 rfl rfl
theorem d95_36 : decode cX11_firstBestFrog 36 = .ok (.iaload, 1) := by decide +kernel
theorem k95_36 {d : Nat} {l0 l1 l2 l3 l4 : Option PV} {st : List PV} {M : Mem} {Q : Option PV → Mem → Prop} {r : Nat} {j : Int32} (hk : mK M r = 13) (hj : inb j (mN M r)) (_h1 : r ≠ 1) : WP d 95 36 [l0, l1, l2, l3, l4] (vi j :: vr r :: st) M Q = WP d 95 37 [l0, l1, l2, l3, l4] (vi (mI M r (ix j)) :: st) M Q := w_iald mC_95 d95_36 hk hj
theorem d95_37 : decode cX11_firstBestFrog 37 = .ok (.if_icmp .ne 5, 3) := by decide +kernel
theorem k95_37 {d : Nat} {l0 l1 l2 l3 l4 : Option PV} {st : List PV} {M : Mem} {Q : Option PV → Mem → Prop} {x y : Int32} : WP d 95 37 [l0, l1, l2, l3, l4] (vi y :: vi x :: st) M Q = (if x = y then WP d 95 40 [l0, l1, l2, l3, l4] (st) M Q else WP d 95 42 [l0, l1, l2, l3, l4] (st) M Q) := w_ic_ne mC_95 d95_37 (by decide)
theorem d95_40 : decode cX11_firstBestFrog 40 = .ok (.iload_n 3, 1) := by decide +kernel
theorem k95_40 {d : Nat} {x : Int32} {l0 l1 l2 l4 : Option PV} {st : List PV} {M : Mem} {Q : Option PV → Mem → Prop} : WP d 95 40 [l0, l1, l2, some (vi x), l4] (st) M Q = WP d 95 41 [l0, l1, l2, some (vi x), l4] (vi x :: st) M Q := w1 mC_95 d95_40 rfl rfl
theorem d95_41 : decode cX11_firstBestFrog 41 = .ok (.ireturn, 1) := by decide +kernel
theorem k95_41 {d : Nat} {l0 l1 l2 l3 l4 : Option PV} {M : Mem} {Q : Option PV → Mem → Prop} {x : Int32} : WP d 95 41 [l0, l1, l2, l3, l4] ([vi x]) M Q = Q (some (vi x)) M := w_iret mC_95 d95_41 rfl
theorem d95_42 : decode cX11_firstBestFrog 42 = .ok (.iinc 3 1, 3) := by decide +kernel
theorem k95_42 {d : Nat} {x : Int32} {l0 l1 l2 l4 : Option PV} {st : List PV} {M : Mem} {Q : Option PV → Mem → Prop} : WP d 95 42 [l0, l1, l2, some (vi x), l4] (st) M Q = WP d 95 45 [l0, l1, l2, some (vi (x + 1)), l4] (st) M Q := w_iinc mC_95 d95_42 rfl (by decide) rfl
theorem d95_45 : decode cX11_firstBestFrog 45 = .ok (.goto (-43), 3) := by decide +kernel
theorem k95_45 {d : Nat} {l0 l1 l2 l3 l4 : Option PV} {st : List PV} {M : Mem} {Q : Option PV → Mem → Prop} : WP d 95 45 [l0, l1, l2, l3, l4] (st) M Q = WP d 95 2 [l0, l1, l2, l3, l4] (st) M Q := w_goto mC_95 d95_45 (by decide)
theorem d95_48 : decode cX11_firstBestFrog 48 = .ok (.bipush 9, 2) := by decide +kernel
theorem k95_48 {d : Nat} {l0 l1 l2 l3 l4 : Option PV} {st : List PV} {M : Mem} {Q : Option PV → Mem → Prop} : WP d 95 48 [l0, l1, l2, l3, l4] (st) M Q = WP d 95 50 [l0, l1, l2, l3, l4] (vi 9 :: st) M Q := w_bipush mC_95 d95_48 (by decide)
theorem d95_50 : decode cX11_firstBestFrog 50 = .ok (.ireturn, 1) := by decide +kernel
theorem k95_50 {d : Nat} {l0 l1 l2 l3 l4 : Option PV} {M : Mem} {Q : Option PV → Mem → Prop} {x : Int32} : WP d 95 50 [l0, l1, l2, l3, l4] ([vi x]) M Q = Q (some (vi x)) M := w_iret mC_95 d95_50 rfl
theorem d96_0 : decode cX11_least 0 = .ok (.aload_n 0, 1) := by decide +kernel
theorem k96_0 {d x : Nat} {l1 l2 l3 : Option PV} {st : List PV} {M : Mem} {Q : Option PV → Mem → Prop} : WP d 96 0 [some (vr x), l1, l2, l3] (st) M Q = WP d 96 1 [some (vr x), l1, l2, l3] (vr x :: st) M Q := w1 mC_96 d96_0 rfl rfl
theorem d96_1 : decode cX11_least 1 = .ok (.iload_n 1, 1) := by decide +kernel
theorem k96_1 {d : Nat} {x : Int32} {l0 l2 l3 : Option PV} {st : List PV} {M : Mem} {Q : Option PV → Mem → Prop} : WP d 96 1 [l0, some (vi x), l2, l3] (st) M Q = WP d 96 2 [l0, some (vi x), l2, l3] (vi x :: st) M Q := w1 mC_96 d96_1 rfl rfl
theorem d96_2 : decode cX11_least 2 = .ok (.invokevirtual 166, 3) := by decide +kernel
theorem k96_2 {d : Nat} {l0 l1 l2 l3 : Option PV} {st : List PV} {M : Mem} {Q : Option PV → Mem → Prop} {a0 : Int32} {r : Nat} (hl : szL st ≤ 8) (hk : mK M r = 11) : WP (d + 1) 96 2 [l0, l1, l2, l3] (vi a0 :: vr r :: st) M Q = WP d 143 0 [some (vr r), some (vi a0)] [] M (fun v M' => WP (d + 1) 96 5 [l0, l1, l2, l3] (psh v st) M' Q) := w_callV mC_96 d96_2 (ci := 11) rfl rfl rfl (Nat.le_of_ble_eq_true rfl) (by decide) rfl hl (Or.inl hk)
theorem d96_5 : decode cX11_least 5 = .ok (.ifCond .eq 14, 3) := by decide +kernel
theorem k96_5 {d : Nat} {l0 l1 l2 l3 : Option PV} {st : List PV} {M : Mem} {Q : Option PV → Mem → Prop} {x : Int32} : WP d 96 5 [l0, l1, l2, l3] (vi x :: st) M Q = (if x = 0 then WP d 96 19 [l0, l1, l2, l3] (st) M Q else WP d 96 8 [l0, l1, l2, l3] (st) M Q) := w_if_eq mC_96 d96_5 (by decide)
theorem d96_8 : decode cX11_least 8 = .ok (.iload_n 2, 1) := by decide +kernel
theorem k96_8 {d : Nat} {x : Int32} {l0 l1 l3 : Option PV} {st : List PV} {M : Mem} {Q : Option PV → Mem → Prop} : WP d 96 8 [l0, l1, some (vi x), l3] (st) M Q = WP d 96 9 [l0, l1, some (vi x), l3] (vi x :: st) M Q := w1 mC_96 d96_8 rfl rfl
theorem d96_9 : decode cX11_least 9 = .ok (.iconst 0, 1) := by decide +kernel
theorem k96_9 {d : Nat} {l0 l1 l2 l3 : Option PV} {st : List PV} {M : Mem} {Q : Option PV → Mem → Prop} : WP d 96 9 [l0, l1, l2, l3] (st) M Q = WP d 96 10 [l0, l1, l2, l3] (vi 0 :: st) M Q := w_iconst mC_96 d96_9 (by decide)
theorem d96_10 : decode cX11_least 10 = .ok (.sipush 209, 3) := by decide +kernel
theorem k96_10 {d : Nat} {l0 l1 l2 l3 : Option PV} {st : List PV} {M : Mem} {Q : Option PV → Mem → Prop} : WP d 96 10 [l0, l1, l2, l3] (st) M Q = WP d 96 13 [l0, l1, l2, l3] (vi 209 :: st) M Q := w_sipush mC_96 d96_10 (by decide)
theorem d96_13 : decode cX11_least 13 = .ok (.invokestatic 79, 3) := by decide +kernel
theorem k96_13 {d : Nat} {l0 l1 l2 l3 : Option PV} {st : List PV} {M : Mem} {Q : Option PV → Mem → Prop} {a0 a1 a2 : Int32} (hl : szL st ≤ 8) : WP (d + 1) 96 13 [l0, l1, l2, l3] (vi a2 :: vi a1 :: vi a0 :: st) M Q = WP d 141 0 [some (vi a0), some (vi a1), some (vi a2)] [] M (fun v M' => WP (d + 1) 96 16 [l0, l1, l2, l3] (psh v st) M' Q) := w_callS mC_96 d96_13 rfl rfl (Nat.le_of_ble_eq_true rfl) (by decide) rfl hl
theorem d96_16 : decode cX11_least 16 = .ok (.ifCond .ne 5, 3) := by decide +kernel
theorem k96_16 {d : Nat} {l0 l1 l2 l3 : Option PV} {st : List PV} {M : Mem} {Q : Option PV → Mem → Prop} {x : Int32} : WP d 96 16 [l0, l1, l2, l3] (vi x :: st) M Q = (if x = 0 then WP d 96 19 [l0, l1, l2, l3] (st) M Q else WP d 96 21 [l0, l1, l2, l3] (st) M Q) := w_if_ne mC_96 d96_16 (by decide)
theorem d96_19 : decode cX11_least 19 = .ok (.iconst (-1), 1) := by decide +kernel
theorem k96_19 {d : Nat} {l0 l1 l2 l3 : Option PV} {st : List PV} {M : Mem} {Q : Option PV → Mem → Prop} : WP d 96 19 [l0, l1, l2, l3] (st) M Q = WP d 96 20 [l0, l1, l2, l3] (vi (-1) :: st) M Q := w_iconst mC_96 d96_19 (by decide)
theorem d96_20 : decode cX11_least 20 = .ok (.ireturn, 1) := by decide +kernel
theorem k96_20 {d : Nat} {l0 l1 l2 l3 : Option PV} {M : Mem} {Q : Option PV → Mem → Prop} {x : Int32} : WP d 96 20 [l0, l1, l2, l3] ([vi x]) M Q = Q (some (vi x)) M := w_iret mC_96 d96_20 rfl
theorem d96_21 : decode cX11_least 21 = .ok (.iconst 1, 1) := by decide +kernel
theorem k96_21 {d : Nat} {l0 l1 l2 l3 : Option PV} {st : List PV} {M : Mem} {Q : Option PV → Mem → Prop} : WP d 96 21 [l0, l1, l2, l3] (st) M Q = WP d 96 22 [l0, l1, l2, l3] (vi 1 :: st) M Q := w_iconst mC_96 d96_21 (by decide)
theorem d96_22 : decode cX11_least 22 = .ok (.istore_n 3, 1) := by decide +kernel
theorem k96_22 {d : Nat} {l0 l1 l2 l3 : Option PV} {st : List PV} {M : Mem} {Q : Option PV → Mem → Prop} {x : Int32} : WP d 96 22 [l0, l1, l2, l3] (vi x :: st) M Q = WP d 96 23 [l0, l1, l2, some (vi x)] (st) M Q := w1 mC_96 d96_22 rfl rfl
theorem d96_23 : decode cX11_least 23 = .ok (.iload_n 3, 1) := by decide +kernel
theorem k96_23 {d : Nat} {x : Int32} {l0 l1 l2 : Option PV} {st : List PV} {M : Mem} {Q : Option PV → Mem → Prop} : WP d 96 23 [l0, l1, l2, some (vi x)] (st) M Q = WP d 96 24 [l0, l1, l2, some (vi x)] (vi x :: st) M Q := w1 mC_96 d96_23 rfl rfl
theorem d96_24 : decode cX11_least 24 = .ok (.bipush 99, 2) := by decide +kernel
theorem k96_24 {d : Nat} {l0 l1 l2 l3 : Option PV} {st : List PV} {M : Mem} {Q : Option PV → Mem → Prop} : WP d 96 24 [l0, l1, l2, l3] (st) M Q = WP d 96 26 [l0, l1, l2, l3] (vi 99 :: st) M Q := w_bipush mC_96 d96_24 (by decide)
theorem d96_26 : decode cX11_least 26 = .ok (.if_icmp .gt 46, 3) := by decide +kernel
theorem k96_26 {d : Nat} {l0 l1 l2 l3 : Option PV} {st : List PV} {M : Mem} {Q : Option PV → Mem → Prop} {x y : Int32} : WP d 96 26 [l0, l1, l2, l3] (vi y :: vi x :: st) M Q = (if y < x then WP d 96 72 [l0, l1, l2, l3] (st) M Q else WP d 96 29 [l0, l1, l2, l3] (st) M Q) := w_ic_gt mC_96 d96_26 (by decide)
theorem d96_29 : decode cX11_least 29 = .ok (.aload_n 0, 1) := by decide +kernel
theorem k96_29 {d x : Nat} {l1 l2 l3 : Option PV} {st : List PV} {M : Mem} {Q : Option PV → Mem → Prop} : WP d 96 29 [some (vr x), l1, l2, l3] (st) M Q = WP d 96 30 [some (vr x), l1, l2, l3] (vr x :: st) M Q := w1 mC_96 d96_29 rfl rfl
theorem d96_30 : decode cX11_least 30 = .ok (.iload_n 1, 1) := by decide +kernel
theorem k96_30 {d : Nat} {x : Int32} {l0 l2 l3 : Option PV} {st : List PV} {M : Mem} {Q : Option PV → Mem → Prop} : WP d 96 30 [l0, some (vi x), l2, l3] (st) M Q = WP d 96 31 [l0, some (vi x), l2, l3] (vi x :: st) M Q := w1 mC_96 d96_30 rfl rfl
theorem d96_31 : decode cX11_least 31 = .ok (.bipush 10, 2) := by decide +kernel
theorem k96_31 {d : Nat} {l0 l1 l2 l3 : Option PV} {st : List PV} {M : Mem} {Q : Option PV → Mem → Prop} : WP d 96 31 [l0, l1, l2, l3] (st) M Q = WP d 96 33 [l0, l1, l2, l3] (vi 10 :: st) M Q := w_bipush mC_96 d96_31 (by decide)
theorem d96_33 : decode cX11_least 33 = .ok (.idiv, 1) := by decide +kernel
theorem k96_33 {d : Nat} {l0 l1 l2 l3 : Option PV} {st : List PV} {M : Mem} {Q : Option PV → Mem → Prop} {x y : Int32} (h : y ≠ 0) : WP d 96 33 [l0, l1, l2, l3] (vi y :: vi x :: st) M Q = WP d 96 34 [l0, l1, l2, l3] (vi (x / y) :: st) M Q := w_div mC_96 d96_33 h
theorem d96_34 : decode cX11_least 34 = .ok (.iload_n 1, 1) := by decide +kernel
theorem k96_34 {d : Nat} {x : Int32} {l0 l2 l3 : Option PV} {st : List PV} {M : Mem} {Q : Option PV → Mem → Prop} : WP d 96 34 [l0, some (vi x), l2, l3] (st) M Q = WP d 96 35 [l0, some (vi x), l2, l3] (vi x :: st) M Q := w1 mC_96 d96_34 rfl rfl
theorem d96_35 : decode cX11_least 35 = .ok (.bipush 10, 2) := by decide +kernel
theorem k96_35 {d : Nat} {l0 l1 l2 l3 : Option PV} {st : List PV} {M : Mem} {Q : Option PV → Mem → Prop} : WP d 96 35 [l0, l1, l2, l3] (st) M Q = WP d 96 37 [l0, l1, l2, l3] (vi 10 :: st) M Q := w_bipush mC_96 d96_35 (by decide)
theorem d96_37 : decode cX11_least 37 = .ok (.irem, 1) := by decide +kernel
theorem k96_37 {d : Nat} {l0 l1 l2 l3 : Option PV} {st : List PV} {M : Mem} {Q : Option PV → Mem → Prop} {x y : Int32} (h : y ≠ 0) : WP d 96 37 [l0, l1, l2, l3] (vi y :: vi x :: st) M Q = WP d 96 38 [l0, l1, l2, l3] (vi (x % y) :: st) M Q := w_rem mC_96 d96_37 h
theorem d96_38 : decode cX11_least 38 = .ok (.iload_n 3, 1) := by decide +kernel
theorem k96_38 {d : Nat} {x : Int32} {l0 l1 l2 : Option PV} {st : List PV} {M : Mem} {Q : Option PV → Mem → Prop} : WP d 96 38 [l0, l1, l2, some (vi x)] (st) M Q = WP d 96 39 [l0, l1, l2, some (vi x)] (vi x :: st) M Q := w1 mC_96 d96_38 rfl rfl
theorem d96_39 : decode cX11_least 39 = .ok (.invokevirtual 169, 3) := by decide +kernel
theorem k96_39 {d : Nat} {l0 l1 l2 l3 : Option PV} {st : List PV} {M : Mem} {Q : Option PV → Mem → Prop} {a0 a1 a2 : Int32} {r : Nat} (hl : szL st ≤ 8) (hk : mK M r = 11) : WP (d + 1) 96 39 [l0, l1, l2, l3] (vi a2 :: vi a1 :: vi a0 :: vr r :: st) M Q = WP d 86 0 [some (vr r), some (vi a0), some (vi a1), some (vi a2)] [] M (fun v M' => WP (d + 1) 96 42 [l0, l1, l2, l3] (psh v st) M' Q) := w_callV mC_96 d96_39 (ci := 11) rfl rfl rfl (Nat.le_of_ble_eq_true rfl) (by decide) rfl hl (Or.inl hk)
theorem d96_42 : decode cX11_least 42 = .ok (.aload_n 0, 1) := by decide +kernel
theorem k96_42 {d x : Nat} {l1 l2 l3 : Option PV} {st : List PV} {M : Mem} {Q : Option PV → Mem → Prop} : WP d 96 42 [some (vr x), l1, l2, l3] (st) M Q = WP d 96 43 [some (vr x), l1, l2, l3] (vr x :: st) M Q := w1 mC_96 d96_42 rfl rfl
theorem d96_43 : decode cX11_least 43 = .ok (.iload_n 1, 1) := by decide +kernel
theorem k96_43 {d : Nat} {x : Int32} {l0 l2 l3 : Option PV} {st : List PV} {M : Mem} {Q : Option PV → Mem → Prop} : WP d 96 43 [l0, some (vi x), l2, l3] (st) M Q = WP d 96 44 [l0, some (vi x), l2, l3] (vi x :: st) M Q := w1 mC_96 d96_43 rfl rfl
theorem d96_44 : decode cX11_least 44 = .ok (.bipush 10, 2) := by decide +kernel
theorem k96_44 {d : Nat} {l0 l1 l2 l3 : Option PV} {st : List PV} {M : Mem} {Q : Option PV → Mem → Prop} : WP d 96 44 [l0, l1, l2, l3] (st) M Q = WP d 96 46 [l0, l1, l2, l3] (vi 10 :: st) M Q := w_bipush mC_96 d96_44 (by decide)
theorem d96_46 : decode cX11_least 46 = .ok (.irem, 1) := by decide +kernel
theorem k96_46 {d : Nat} {l0 l1 l2 l3 : Option PV} {st : List PV} {M : Mem} {Q : Option PV → Mem → Prop} {x y : Int32} (h : y ≠ 0) : WP d 96 46 [l0, l1, l2, l3] (vi y :: vi x :: st) M Q = WP d 96 47 [l0, l1, l2, l3] (vi (x % y) :: st) M Q := w_rem mC_96 d96_46 h
theorem d96_47 : decode cX11_least 47 = .ok (.iload_n 2, 1) := by decide +kernel
theorem k96_47 {d : Nat} {x : Int32} {l0 l1 l3 : Option PV} {st : List PV} {M : Mem} {Q : Option PV → Mem → Prop} : WP d 96 47 [l0, l1, some (vi x), l3] (st) M Q = WP d 96 48 [l0, l1, some (vi x), l3] (vi x :: st) M Q := w1 mC_96 d96_47 rfl rfl
theorem d96_48 : decode cX11_least 48 = .ok (.bipush 10, 2) := by decide +kernel
theorem k96_48 {d : Nat} {l0 l1 l2 l3 : Option PV} {st : List PV} {M : Mem} {Q : Option PV → Mem → Prop} : WP d 96 48 [l0, l1, l2, l3] (st) M Q = WP d 96 50 [l0, l1, l2, l3] (vi 10 :: st) M Q := w_bipush mC_96 d96_48 (by decide)
theorem d96_50 : decode cX11_least 50 = .ok (.idiv, 1) := by decide +kernel
theorem k96_50 {d : Nat} {l0 l1 l2 l3 : Option PV} {st : List PV} {M : Mem} {Q : Option PV → Mem → Prop} {x y : Int32} (h : y ≠ 0) : WP d 96 50 [l0, l1, l2, l3] (vi y :: vi x :: st) M Q = WP d 96 51 [l0, l1, l2, l3] (vi (x / y) :: st) M Q := w_div mC_96 d96_50 h
theorem d96_51 : decode cX11_least 51 = .ok (.invokevirtual 220, 3) := by decide +kernel
theorem k96_51 {d : Nat} {l0 l1 l2 l3 : Option PV} {st : List PV} {M : Mem} {Q : Option PV → Mem → Prop} {a0 a1 : Int32} {r : Nat} (hl : szL st ≤ 8) (hk : mK M r = 11) : WP (d + 1) 96 51 [l0, l1, l2, l3] (vi a1 :: vi a0 :: vr r :: st) M Q = WP d 97 0 [some (vr r), some (vi a0), some (vi a1), none] [] M (fun v M' => WP (d + 1) 96 54 [l0, l1, l2, l3] (psh v st) M' Q) := w_callV mC_96 d96_51 (ci := 11) rfl rfl rfl (Nat.le_of_ble_eq_true rfl) (by decide) rfl hl (Or.inl hk)
theorem d96_54 : decode cX11_least 54 = .ok (.bipush 10, 2) := by decide +kernel
theorem k96_54 {d : Nat} {l0 l1 l2 l3 : Option PV} {st : List PV} {M : Mem} {Q : Option PV → Mem → Prop} : WP d 96 54 [l0, l1, l2, l3] (st) M Q = WP d 96 56 [l0, l1, l2, l3] (vi 10 :: st) M Q := w_bipush mC_96 d96_54 (by decide)
theorem d96_56 : decode cX11_least 56 = .ok (.idiv, 1) := by decide +kernel
theorem k96_56 {d : Nat} {l0 l1 l2 l3 : Option PV} {st : List PV} {M : Mem} {Q : Option PV → Mem → Prop} {x y : Int32} (h : y ≠ 0) : WP d 96 56 [l0, l1, l2, l3] (vi y :: vi x :: st) M Q = WP d 96 57 [l0, l1, l2, l3] (vi (x / y) :: st) M Q := w_div mC_96 d96_56 h
theorem d96_57 : decode cX11_least 57 = .ok (.iload_n 2, 1) := by decide +kernel
theorem k96_57 {d : Nat} {x : Int32} {l0 l1 l3 : Option PV} {st : List PV} {M : Mem} {Q : Option PV → Mem → Prop} : WP d 96 57 [l0, l1, some (vi x), l3] (st) M Q = WP d 96 58 [l0, l1, some (vi x), l3] (vi x :: st) M Q := w1 mC_96 d96_57 rfl rfl
theorem d96_58 : decode cX11_least 58 = .ok (.bipush 10, 2) := by decide +kernel
theorem k96_58 {d : Nat} {l0 l1 l2 l3 : Option PV} {st : List PV} {M : Mem} {Q : Option PV → Mem → Prop} : WP d 96 58 [l0, l1, l2, l3] (st) M Q = WP d 96 60 [l0, l1, l2, l3] (vi 10 :: st) M Q := w_bipush mC_96 d96_58 (by decide)
theorem d96_60 : decode cX11_least 60 = .ok (.irem, 1) := by decide +kernel
theorem k96_60 {d : Nat} {l0 l1 l2 l3 : Option PV} {st : List PV} {M : Mem} {Q : Option PV → Mem → Prop} {x y : Int32} (h : y ≠ 0) : WP d 96 60 [l0, l1, l2, l3] (vi y :: vi x :: st) M Q = WP d 96 61 [l0, l1, l2, l3] (vi (x % y) :: st) M Q := w_rem mC_96 d96_60 h
theorem d96_61 : decode cX11_least 61 = .ok (.if_icmp .lt 5, 3) := by decide +kernel
theorem k96_61 {d : Nat} {l0 l1 l2 l3 : Option PV} {st : List PV} {M : Mem} {Q : Option PV → Mem → Prop} {x y : Int32} : WP d 96 61 [l0, l1, l2, l3] (vi y :: vi x :: st) M Q = (if x < y then WP d 96 66 [l0, l1, l2, l3] (st) M Q else WP d 96 64 [l0, l1, l2, l3] (st) M Q) := w_ic_lt mC_96 d96_61 (by decide)
theorem d96_64 : decode cX11_least 64 = .ok (.iload_n 3, 1) := by decide +kernel
theorem k96_64 {d : Nat} {x : Int32} {l0 l1 l2 : Option PV} {st : List PV} {M : Mem} {Q : Option PV → Mem → Prop} : WP d 96 64 [l0, l1, l2, some (vi x)] (st) M Q = WP d 96 65 [l0, l1, l2, some (vi x)] (vi x :: st) M Q := w1 mC_96 d96_64 rfl rfl
theorem d96_65 : decode cX11_least 65 = .ok (.ireturn, 1) := by decide +kernel
theorem k96_65 {d : Nat} {l0 l1 l2 l3 : Option PV} {M : Mem} {Q : Option PV → Mem → Prop} {x : Int32} : WP d 96 65 [l0, l1, l2, l3] ([vi x]) M Q = Q (some (vi x)) M := w_iret mC_96 d96_65 rfl
theorem d96_66 : decode cX11_least 66 = .ok (.iinc 3 1, 3) := by decide +kernel
theorem k96_66 {d : Nat} {x : Int32} {l0 l1 l2 : Option PV} {st : List PV} {M : Mem} {Q : Option PV → Mem → Prop} : WP d 96 66 [l0, l1, l2, some (vi x)] (st) M Q = WP d 96 69 [l0, l1, l2, some (vi (x + 1))] (st) M Q := w_iinc mC_96 d96_66 rfl (by decide) rfl
theorem d96_69 : decode cX11_least 69 = .ok (.goto (-46), 3) := by decide +kernel
theorem k96_69 {d : Nat} {l0 l1 l2 l3 : Option PV} {st : List PV} {M : Mem} {Q : Option PV → Mem → Prop} : WP d 96 69 [l0, l1, l2, l3] (st) M Q = WP d 96 23 [l0, l1, l2, l3] (st) M Q := w_goto mC_96 d96_69 (by decide)
theorem d96_72 : decode cX11_least 72 = .ok (.bipush (-2), 2) := by decide +kernel
theorem k96_72 {d : Nat} {l0 l1 l2 l3 : Option PV} {st : List PV} {M : Mem} {Q : Option PV → Mem → Prop} : WP d 96 72 [l0, l1, l2, l3] (st) M Q = WP d 96 74 [l0, l1, l2, l3] (vi (-2) :: st) M Q := w_bipush mC_96 d96_72 (by decide)
theorem d96_74 : decode cX11_least 74 = .ok (.ireturn, 1) := by decide +kernel
theorem k96_74 {d : Nat} {l0 l1 l2 l3 : Option PV} {M : Mem} {Q : Option PV → Mem → Prop} {x : Int32} : WP d 96 74 [l0, l1, l2, l3] ([vi x]) M Q = Q (some (vi x)) M := w_iret mC_96 d96_74 rfl
theorem d97_0 : decode cX11_heldBehind 0 = .ok (.iconst 0, 1) := by decide +kernel
theorem k97_0 {d : Nat} {l0 l1 l2 l3 : Option PV} {st : List PV} {M : Mem} {Q : Option PV → Mem → Prop} : WP d 97 0 [l0, l1, l2, l3] (st) M Q = WP d 97 1 [l0, l1, l2, l3] (vi 0 :: st) M Q := w_iconst mC_97 d97_0 (by decide)
theorem d97_1 : decode cX11_heldBehind 1 = .ok (.istore_n 3, 1) := by decide +kernel
theorem k97_1 {d : Nat} {l0 l1 l2 l3 : Option PV} {st : List PV} {M : Mem} {Q : Option PV → Mem → Prop} {x : Int32} : WP d 97 1 [l0, l1, l2, l3] (vi x :: st) M Q = WP d 97 2 [l0, l1, l2, some (vi x)] (st) M Q := w1 mC_97 d97_1 rfl rfl
theorem d97_2 : decode cX11_heldBehind 2 = .ok (.iload_n 3, 1) := by decide +kernel
theorem k97_2 {d : Nat} {x : Int32} {l0 l1 l2 : Option PV} {st : List PV} {M : Mem} {Q : Option PV → Mem → Prop} : WP d 97 2 [l0, l1, l2, some (vi x)] (st) M Q = WP d 97 3 [l0, l1, l2, some (vi x)] (vi x :: st) M Q := w1 mC_97 d97_2 rfl rfl
theorem d97_3 : decode cX11_heldBehind 3 = .ok (.iload_n 2, 1) := by decide +kernel
theorem k97_3 {d : Nat} {x : Int32} {l0 l1 l3 : Option PV} {st : List PV} {M : Mem} {Q : Option PV → Mem → Prop} : WP d 97 3 [l0, l1, some (vi x), l3] (st) M Q = WP d 97 4 [l0, l1, some (vi x), l3] (vi x :: st) M Q := w1 mC_97 d97_3 rfl rfl
theorem d97_4 : decode cX11_heldBehind 4 = .ok (.if_icmp .ge 29, 3) := by decide +kernel
theorem k97_4 {d : Nat} {l0 l1 l2 l3 : Option PV} {st : List PV} {M : Mem} {Q : Option PV → Mem → Prop} {x y : Int32} : WP d 97 4 [l0, l1, l2, l3] (vi y :: vi x :: st) M Q = (if y ≤ x then WP d 97 33 [l0, l1, l2, l3] (st) M Q else WP d 97 7 [l0, l1, l2, l3] (st) M Q) := w_ic_ge mC_97 d97_4 (by decide)
theorem d97_7 : decode cX11_heldBehind 7 = .ok (.aload_n 0, 1) := by decide +kernel
theorem k97_7 {d x : Nat} {l1 l2 l3 : Option PV} {st : List PV} {M : Mem} {Q : Option PV → Mem → Prop} : WP d 97 7 [some (vr x), l1, l2, l3] (st) M Q = WP d 97 8 [some (vr x), l1, l2, l3] (vr x :: st) M Q := w1 mC_97 d97_7 rfl rfl
theorem d97_8 : decode cX11_heldBehind 8 = .ok (.getfield 16, 3) := by decide +kernel
theorem k97_8 {d : Nat} {l0 l1 l2 l3 : Option PV} {st : List PV} {M : Mem} {Q : Option PV → Mem → Prop} {r : Nat} (hk : mK M r = 11) : WP d 97 8 [l0, l1, l2, l3] (vr r :: st) M Q = WP d 97 11 [l0, l1, l2, l3] (vr (mR M r 1) :: st) M Q := w_getr mC_97 d97_8 fE_11_16 rfl (by rw [hk]; rfl)
theorem d97_11 : decode cX11_heldBehind 11 = .ok (.iload_n 1, 1) := by decide +kernel
theorem k97_11 {d : Nat} {x : Int32} {l0 l2 l3 : Option PV} {st : List PV} {M : Mem} {Q : Option PV → Mem → Prop} : WP d 97 11 [l0, some (vi x), l2, l3] (st) M Q = WP d 97 12 [l0, some (vi x), l2, l3] (vi x :: st) M Q := w1 mC_97 d97_11 rfl rfl
theorem d97_12 : decode cX11_heldBehind 12 = .ok (.aload_n 0, 1) := by decide +kernel
theorem k97_12 {d x : Nat} {l1 l2 l3 : Option PV} {st : List PV} {M : Mem} {Q : Option PV → Mem → Prop} : WP d 97 12 [some (vr x), l1, l2, l3] (st) M Q = WP d 97 13 [some (vr x), l1, l2, l3] (vr x :: st) M Q := w1 mC_97 d97_12 rfl rfl
theorem d97_13 : decode cX11_heldBehind 13 = .ok (.getfield 25, 3) := by decide +kernel
theorem k97_13 {d : Nat} {l0 l1 l2 l3 : Option PV} {st : List PV} {M : Mem} {Q : Option PV → Mem → Prop} {r : Nat} (hk : mK M r = 11) : WP d 97 13 [l0, l1, l2, l3] (vr r :: st) M Q = WP d 97 16 [l0, l1, l2, l3] (vr (mR M r 4) :: st) M Q := w_getr mC_97 d97_13 fE_11_25 rfl (by rw [hk]; rfl)
theorem d97_16 : decode cX11_heldBehind 16 = .ok (.invokevirtual 181, 3) := by decide +kernel
theorem k97_16 {d : Nat} {l0 l1 l2 l3 : Option PV} {st : List PV} {M : Mem} {Q : Option PV → Mem → Prop} {a0 : Int32} {a1 : Nat} {r : Nat} (hl : szL st ≤ 8) (hk : mK M r = 4) : WP (d + 1) 97 16 [l0, l1, l2, l3] (vr a1 :: vi a0 :: vr r :: st) M Q = WP d 41 0 [some (vr r), some (vi a0), some (vr a1), none, none, none] [] M (fun v M' => WP (d + 1) 97 19 [l0, l1, l2, l3] (psh v st) M' Q) := w_callV mC_97 d97_16 (ci := 4) rfl rfl rfl (Nat.le_of_ble_eq_true rfl) (by decide) rfl hl (Or.inl hk)
theorem d97_19 : decode cX11_heldBehind 19 = .ok (.pop, 1) := by decide +kernel
theorem k97_19 {d : Nat} {l0 l1 l2 l3 : Option PV} {st : List PV} {M : Mem} {Q : Option PV → Mem → Prop} {x : Nat} : WP d 97 19 [l0, l1, l2, l3] (vr x :: st) M Q = WP d 97 20 [l0, l1, l2, l3] (st) M Q := w1 mC_97 d97_19 rfl rfl
theorem k97_19i {d : Nat} {l0 l1 l2 l3 : Option PV} {st : List PV} {M : Mem} {Q : Option PV → Mem → Prop} {x : Int32} : WP d 97 19 [l0, l1, l2, l3] (vi x :: st) M Q = WP d 97 20 [l0, l1, l2, l3] (st) M Q := w1 mC_97 d97_19 rfl rfl
theorem d97_20 : decode cX11_heldBehind 20 = .ok (.aload_n 0, 1) := by decide +kernel
theorem k97_20 {d x : Nat} {l1 l2 l3 : Option PV} {st : List PV} {M : Mem} {Q : Option PV → Mem → Prop} : WP d 97 20 [some (vr x), l1, l2, l3] (st) M Q = WP d 97 21 [some (vr x), l1, l2, l3] (vr x :: st) M Q := w1 mC_97 d97_20 rfl rfl
theorem d97_21 : decode cX11_heldBehind 21 = .ok (.getfield 16, 3) := by decide +kernel
theorem k97_21 {d : Nat} {l0 l1 l2 l3 : Option PV} {st : List PV} {M : Mem} {Q : Option PV → Mem → Prop} {r : Nat} (hk : mK M r = 11) : WP d 97 21 [l0, l1, l2, l3] (vr r :: st) M Q = WP d 97 24 [l0, l1, l2, l3] (vr (mR M r 1) :: st) M Q := w_getr mC_97 d97_21 fE_11_16 rfl (by rw [hk]; rfl)
theorem d97_24 : decode cX11_heldBehind 24 = .ok (.invokevirtual 184, 3) := by decide +kernel
theorem k97_24 {d : Nat} {l0 l1 l2 l3 : Option PV} {st : List PV} {M : Mem} {Q : Option PV → Mem → Prop} {r : Nat} (hl : szL st ≤ 8) (hk : mK M r = 4) : WP (d + 1) 97 24 [l0, l1, l2, l3] (vr r :: st) M Q = WP d 43 0 [some (vr r)] [] M (fun v M' => WP (d + 1) 97 27 [l0, l1, l2, l3] (psh v st) M' Q) := w_callV mC_97 d97_24 (ci := 4) rfl rfl rfl (Nat.le_of_ble_eq_true rfl) (by decide) rfl hl (Or.inl hk)
theorem d97_27 : decode cX11_heldBehind 27 = .ok (.iinc 3 1, 3) := by decide +kernel
theorem k97_27 {d : Nat} {x : Int32} {l0 l1 l2 : Option PV} {st : List PV} {M : Mem} {Q : Option PV → Mem → Prop} : WP d 97 27 [l0, l1, l2, some (vi x)] (st) M Q = WP d 97 30 [l0, l1, l2, some (vi (x + 1))] (st) M Q := w_iinc mC_97 d97_27 rfl (by decide) rfl
theorem d97_30 : decode cX11_heldBehind 30 = .ok (.goto (-28), 3) := by decide +kernel
theorem k97_30 {d : Nat} {l0 l1 l2 l3 : Option PV} {st : List PV} {M : Mem} {Q : Option PV → Mem → Prop} : WP d 97 30 [l0, l1, l2, l3] (st) M Q = WP d 97 2 [l0, l1, l2, l3] (st) M Q := w_goto mC_97 d97_30 (by decide)
theorem d97_33 : decode cX11_heldBehind 33 = .ok (.aload_n 0, 1) := by decide +kernel
theorem k97_33 {d x : Nat} {l1 l2 l3 : Option PV} {st : List PV} {M : Mem} {Q : Option PV → Mem → Prop} : WP d 97 33 [some (vr x), l1, l2, l3] (st) M Q = WP d 97 34 [some (vr x), l1, l2, l3] (vr x :: st) M Q := w1 mC_97 d97_33 rfl rfl
theorem d97_34 : decode cX11_heldBehind 34 = .ok (.getfield 16, 3) := by decide +kernel
theorem k97_34 {d : Nat} {l0 l1 l2 l3 : Option PV} {st : List PV} {M : Mem} {Q : Option PV → Mem → Prop} {r : Nat} (hk : mK M r = 11) : WP d 97 34 [l0, l1, l2, l3] (vr r :: st) M Q = WP d 97 37 [l0, l1, l2, l3] (vr (mR M r 1) :: st) M Q := w_getr mC_97 d97_34 fE_11_16 rfl (by rw [hk]; rfl)
theorem d97_37 : decode cX11_heldBehind 37 = .ok (.getfield 139, 3) := by decide +kernel
theorem k97_37 {d : Nat} {l0 l1 l2 l3 : Option PV} {st : List PV} {M : Mem} {Q : Option PV → Mem → Prop} {r : Nat} (hk : mK M r = 4) : WP d 97 37 [l0, l1, l2, l3] (vr r :: st) M Q = WP d 97 40 [l0, l1, l2, l3] (vr (mR M r 5) :: st) M Q := w_getr mC_97 d97_37 fE_11_139 rfl (by rw [hk]; rfl)
theorem d97_40 : decode cX11_heldBehind 40 = .ok (.iload_n 1, 1) := by decide +kernel
theorem k97_40 {d : Nat} {x : Int32} {l0 l2 l3 : Option PV} {st : List PV} {M : Mem} {Q : Option PV → Mem → Prop} : WP d 97 40 [l0, some (vi x), l2, l3] (st) M Q = WP d 97 41 [l0, some (vi x), l2, l3] (vi x :: st) M Q := w1 mC_97 d97_40 rfl rfl
theorem d97_41 : decode cX11_heldBehind 41 = .ok (.iaload, 1) := by decide +kernel
theorem k97_41 {d : Nat} {l0 l1 l2 l3 : Option PV} {st : List PV} {M : Mem} {Q : Option PV → Mem → Prop} {r : Nat} {j : Int32} (hk : mK M r = 13) (hj : inb j (mN M r)) (_h1 : r ≠ 1) : WP d 97 41 [l0, l1, l2, l3] (vi j :: vr r :: st) M Q = WP d 97 42 [l0, l1, l2, l3] (vi (mI M r (ix j)) :: st) M Q := w_iald mC_97 d97_41 hk hj
theorem d97_42 : decode cX11_heldBehind 42 = .ok (.ireturn, 1) := by decide +kernel
theorem k97_42 {d : Nat} {l0 l1 l2 l3 : Option PV} {M : Mem} {Q : Option PV → Mem → Prop} {x : Int32} : WP d 97 42 [l0, l1, l2, l3] ([vi x]) M Q = Q (some (vi x)) M := w_iret mC_97 d97_42 rfl
theorem d98_0 : decode cX11_bars 0 = .ok (.iload_n 1, 1) := by decide +kernel
theorem k98_0 {d : Nat} {x : Int32} {l0 l2 : Option PV} {st : List PV} {M : Mem} {Q : Option PV → Mem → Prop} : WP d 98 0 [l0, some (vi x), l2] (st) M Q = WP d 98 1 [l0, some (vi x), l2] (vi x :: st) M Q := w1 mC_98 d98_0 rfl rfl
theorem d98_1 : decode cX11_bars 1 = .ok (.iconst 0, 1) := by decide +kernel
theorem k98_1 {d : Nat} {l0 l1 l2 : Option PV} {st : List PV} {M : Mem} {Q : Option PV → Mem → Prop} : WP d 98 1 [l0, l1, l2] (st) M Q = WP d 98 2 [l0, l1, l2] (vi 0 :: st) M Q := w_iconst mC_98 d98_1 (by decide)
theorem d98_2 : decode cX11_bars 2 = .ok (.iconst 1, 1) := by decide +kernel
theorem k98_2 {d : Nat} {l0 l1 l2 : Option PV} {st : List PV} {M : Mem} {Q : Option PV → Mem → Prop} : WP d 98 2 [l0, l1, l2] (st) M Q = WP d 98 3 [l0, l1, l2] (vi 1 :: st) M Q := w_iconst mC_98 d98_2 (by decide)
theorem d98_3 : decode cX11_bars 3 = .ok (.aload_n 0, 1) := by decide +kernel
theorem k98_3 {d x : Nat} {l1 l2 : Option PV} {st : List PV} {M : Mem} {Q : Option PV → Mem → Prop} : WP d 98 3 [some (vr x), l1, l2] (st) M Q = WP d 98 4 [some (vr x), l1, l2] (vr x :: st) M Q := w1 mC_98 d98_3 rfl rfl
theorem d98_4 : decode cX11_bars 4 = .ok (.getfield 10, 3) := by decide +kernel
theorem k98_4 {d : Nat} {l0 l1 l2 : Option PV} {st : List PV} {M : Mem} {Q : Option PV → Mem → Prop} {r : Nat} (hk : mK M r = 11) : WP d 98 4 [l0, l1, l2] (vr r :: st) M Q = WP d 98 7 [l0, l1, l2] (vr (mR M r 0) :: st) M Q := w_getr mC_98 d98_4 fE_11_10 rfl (by rw [hk]; rfl)
theorem d98_7 : decode cX11_bars 7 = .ok (.getfield 187, 3) := by decide +kernel
theorem k98_7 {d : Nat} {l0 l1 l2 : Option PV} {st : List PV} {M : Mem} {Q : Option PV → Mem → Prop} {r : Nat} (hk : mK M r = 4) : WP d 98 7 [l0, l1, l2] (vr r :: st) M Q = WP d 98 10 [l0, l1, l2] (vi (mI M r 8) :: st) M Q := w_get mC_98 d98_7 fE_11_187 rfl (by rw [hk]; rfl)
theorem d98_10 : decode cX11_bars 10 = .ok (.ishl, 1) := by decide +kernel
theorem k98_10 {d : Nat} {l0 l1 l2 : Option PV} {st : List PV} {M : Mem} {Q : Option PV → Mem → Prop} {x y : Int32} : WP d 98 10 [l0, l1, l2] (vi y :: vi x :: st) M Q = WP d 98 11 [l0, l1, l2] (vi (x <<< (y &&& 31)) :: st) M Q := w1 mC_98 d98_10 rfl rfl
theorem d98_11 : decode cX11_bars 11 = .ok (.iconst 1, 1) := by decide +kernel
theorem k98_11 {d : Nat} {l0 l1 l2 : Option PV} {st : List PV} {M : Mem} {Q : Option PV → Mem → Prop} : WP d 98 11 [l0, l1, l2] (st) M Q = WP d 98 12 [l0, l1, l2] (vi 1 :: st) M Q := w_iconst mC_98 d98_11 (by decide)
theorem d98_12 : decode cX11_bars 12 = .ok (.isub, 1) := by decide +kernel
theorem k98_12 {d : Nat} {l0 l1 l2 : Option PV} {st : List PV} {M : Mem} {Q : Option PV → Mem → Prop} {x y : Int32} : WP d 98 12 [l0, l1, l2] (vi y :: vi x :: st) M Q = WP d 98 13 [l0, l1, l2] (vi (x - y) :: st) M Q := w1 mC_98 d98_12 rfl rfl
theorem d98_13 : decode cX11_bars 13 = .ok (.invokestatic 79, 3) := by decide +kernel
theorem k98_13 {d : Nat} {l0 l1 l2 : Option PV} {st : List PV} {M : Mem} {Q : Option PV → Mem → Prop} {a0 a1 a2 : Int32} (hl : szL st ≤ 8) : WP (d + 1) 98 13 [l0, l1, l2] (vi a2 :: vi a1 :: vi a0 :: st) M Q = WP d 141 0 [some (vi a0), some (vi a1), some (vi a2)] [] M (fun v M' => WP (d + 1) 98 16 [l0, l1, l2] (psh v st) M' Q) := w_callS mC_98 d98_13 rfl rfl (Nat.le_of_ble_eq_true rfl) (by decide) rfl hl
theorem d98_16 : decode cX11_bars 16 = .ok (.ifCond .eq 14, 3) := by decide +kernel
theorem k98_16 {d : Nat} {l0 l1 l2 : Option PV} {st : List PV} {M : Mem} {Q : Option PV → Mem → Prop} {x : Int32} : WP d 98 16 [l0, l1, l2] (vi x :: st) M Q = (if x = 0 then WP d 98 30 [l0, l1, l2] (st) M Q else WP d 98 19 [l0, l1, l2] (st) M Q) := w_if_eq mC_98 d98_16 (by decide)
theorem d98_19 : decode cX11_bars 19 = .ok (.iload_n 2, 1) := by decide +kernel
theorem k98_19 {d : Nat} {x : Int32} {l0 l1 : Option PV} {st : List PV} {M : Mem} {Q : Option PV → Mem → Prop} : WP d 98 19 [l0, l1, some (vi x)] (st) M Q = WP d 98 20 [l0, l1, some (vi x)] (vi x :: st) M Q := w1 mC_98 d98_19 rfl rfl
theorem d98_20 : decode cX11_bars 20 = .ok (.iconst (-1), 1) := by decide +kernel
theorem k98_20 {d : Nat} {l0 l1 l2 : Option PV} {st : List PV} {M : Mem} {Q : Option PV → Mem → Prop} : WP d 98 20 [l0, l1, l2] (st) M Q = WP d 98 21 [l0, l1, l2] (vi (-1) :: st) M Q := w_iconst mC_98 d98_20 (by decide)
theorem d98_21 : decode cX11_bars 21 = .ok (.sipush 9999, 3) := by decide +kernel
theorem k98_21 {d : Nat} {l0 l1 l2 : Option PV} {st : List PV} {M : Mem} {Q : Option PV → Mem → Prop} : WP d 98 21 [l0, l1, l2] (st) M Q = WP d 98 24 [l0, l1, l2] (vi 9999 :: st) M Q := w_sipush mC_98 d98_21 (by decide)
theorem d98_24 : decode cX11_bars 24 = .ok (.invokestatic 79, 3) := by decide +kernel
theorem k98_24 {d : Nat} {l0 l1 l2 : Option PV} {st : List PV} {M : Mem} {Q : Option PV → Mem → Prop} {a0 a1 a2 : Int32} (hl : szL st ≤ 8) : WP (d + 1) 98 24 [l0, l1, l2] (vi a2 :: vi a1 :: vi a0 :: st) M Q = WP d 141 0 [some (vi a0), some (vi a1), some (vi a2)] [] M (fun v M' => WP (d + 1) 98 27 [l0, l1, l2] (psh v st) M' Q) := w_callS mC_98 d98_24 rfl rfl (Nat.le_of_ble_eq_true rfl) (by decide) rfl hl
theorem d98_27 : decode cX11_bars 27 = .ok (.ifCond .ne 5, 3) := by decide +kernel
theorem k98_27 {d : Nat} {l0 l1 l2 : Option PV} {st : List PV} {M : Mem} {Q : Option PV → Mem → Prop} {x : Int32} : WP d 98 27 [l0, l1, l2] (vi x :: st) M Q = (if x = 0 then WP d 98 30 [l0, l1, l2] (st) M Q else WP d 98 32 [l0, l1, l2] (st) M Q) := w_if_ne mC_98 d98_27 (by decide)
theorem d98_30 : decode cX11_bars 30 = .ok (.iconst (-1), 1) := by decide +kernel
theorem k98_30 {d : Nat} {l0 l1 l2 : Option PV} {st : List PV} {M : Mem} {Q : Option PV → Mem → Prop} : WP d 98 30 [l0, l1, l2] (st) M Q = WP d 98 31 [l0, l1, l2] (vi (-1) :: st) M Q := w_iconst mC_98 d98_30 (by decide)
theorem d98_31 : decode cX11_bars 31 = .ok (.ireturn, 1) := by decide +kernel
theorem k98_31 {d : Nat} {l0 l1 l2 : Option PV} {M : Mem} {Q : Option PV → Mem → Prop} {x : Int32} : WP d 98 31 [l0, l1, l2] ([vi x]) M Q = Q (some (vi x)) M := w_iret mC_98 d98_31 rfl
theorem d98_32 : decode cX11_bars 32 = .ok (.iload_n 2, 1) := by decide +kernel
theorem k98_32 {d : Nat} {x : Int32} {l0 l1 : Option PV} {st : List PV} {M : Mem} {Q : Option PV → Mem → Prop} : WP d 98 32 [l0, l1, some (vi x)] (st) M Q = WP d 98 33 [l0, l1, some (vi x)] (vi x :: st) M Q := w1 mC_98 d98_32 rfl rfl
theorem d98_33 : decode cX11_bars 33 = .ok (.iconst (-1), 1) := by decide +kernel
theorem k98_33 {d : Nat} {l0 l1 l2 : Option PV} {st : List PV} {M : Mem} {Q : Option PV → Mem → Prop} : WP d 98 33 [l0, l1, l2] (st) M Q = WP d 98 34 [l0, l1, l2] (vi (-1) :: st) M Q := w_iconst mC_98 d98_33 (by decide)
theorem d98_34 : decode cX11_bars 34 = .ok (.if_icmp .ne 11, 3) := by decide +kernel
theorem k98_34 {d : Nat} {l0 l1 l2 : Option PV} {st : List PV} {M : Mem} {Q : Option PV → Mem → Prop} {x y : Int32} : WP d 98 34 [l0, l1, l2] (vi y :: vi x :: st) M Q = (if x = y then WP d 98 37 [l0, l1, l2] (st) M Q else WP d 98 45 [l0, l1, l2] (st) M Q) := w_ic_ne mC_98 d98_34 (by decide)
theorem d98_37 : decode cX11_bars 37 = .ok (.aload_n 0, 1) := by decide +kernel
theorem k98_37 {d x : Nat} {l1 l2 : Option PV} {st : List PV} {M : Mem} {Q : Option PV → Mem → Prop} : WP d 98 37 [some (vr x), l1, l2] (st) M Q = WP d 98 38 [some (vr x), l1, l2] (vr x :: st) M Q := w1 mC_98 d98_37 rfl rfl
theorem d98_38 : decode cX11_bars 38 = .ok (.iload_n 1, 1) := by decide +kernel
theorem k98_38 {d : Nat} {x : Int32} {l0 l2 : Option PV} {st : List PV} {M : Mem} {Q : Option PV → Mem → Prop} : WP d 98 38 [l0, some (vi x), l2] (st) M Q = WP d 98 39 [l0, some (vi x), l2] (vi x :: st) M Q := w1 mC_98 d98_38 rfl rfl
theorem d98_39 : decode cX11_bars 39 = .ok (.invokevirtual 223, 3) := by decide +kernel
theorem k98_39 {d : Nat} {l0 l1 l2 : Option PV} {st : List PV} {M : Mem} {Q : Option PV → Mem → Prop} {a0 : Int32} {r : Nat} (hl : szL st ≤ 8) (hk : mK M r = 11) : WP (d + 1) 98 39 [l0, l1, l2] (vi a0 :: vr r :: st) M Q = WP d 99 0 [some (vr r), some (vi a0), none] [] M (fun v M' => WP (d + 1) 98 42 [l0, l1, l2] (psh v st) M' Q) := w_callV mC_98 d98_39 (ci := 11) rfl rfl rfl (Nat.le_of_ble_eq_true rfl) (by decide) rfl hl (Or.inl hk)
theorem d98_42 : decode cX11_bars 42 = .ok (.goto 9, 3) := by decide +kernel
theorem k98_42 {d : Nat} {l0 l1 l2 : Option PV} {st : List PV} {M : Mem} {Q : Option PV → Mem → Prop} : WP d 98 42 [l0, l1, l2] (st) M Q = WP d 98 51 [l0, l1, l2] (st) M Q := w_goto mC_98 d98_42 (by decide)
theorem d98_45 : decode cX11_bars 45 = .ok (.aload_n 0, 1) := by decide +kernel
theorem k98_45 {d x : Nat} {l1 l2 : Option PV} {st : List PV} {M : Mem} {Q : Option PV → Mem → Prop} : WP d 98 45 [some (vr x), l1, l2] (st) M Q = WP d 98 46 [some (vr x), l1, l2] (vr x :: st) M Q := w1 mC_98 d98_45 rfl rfl
theorem d98_46 : decode cX11_bars 46 = .ok (.iload_n 2, 1) := by decide +kernel
theorem k98_46 {d : Nat} {x : Int32} {l0 l1 : Option PV} {st : List PV} {M : Mem} {Q : Option PV → Mem → Prop} : WP d 98 46 [l0, l1, some (vi x)] (st) M Q = WP d 98 47 [l0, l1, some (vi x)] (vi x :: st) M Q := w1 mC_98 d98_46 rfl rfl
theorem d98_47 : decode cX11_bars 47 = .ok (.iload_n 1, 1) := by decide +kernel
theorem k98_47 {d : Nat} {x : Int32} {l0 l2 : Option PV} {st : List PV} {M : Mem} {Q : Option PV → Mem → Prop} : WP d 98 47 [l0, some (vi x), l2] (st) M Q = WP d 98 48 [l0, some (vi x), l2] (vi x :: st) M Q := w1 mC_98 d98_47 rfl rfl
theorem d98_48 : decode cX11_bars 48 = .ok (.invokevirtual 226, 3) := by decide +kernel
theorem k98_48 {d : Nat} {l0 l1 l2 : Option PV} {st : List PV} {M : Mem} {Q : Option PV → Mem → Prop} {a0 a1 : Int32} {r : Nat} (hl : szL st ≤ 8) (hk : mK M r = 11) : WP (d + 1) 98 48 [l0, l1, l2] (vi a1 :: vi a0 :: vr r :: st) M Q = WP d 100 0 [some (vr r), some (vi a0), some (vi a1), none, none, none] [] M (fun v M' => WP (d + 1) 98 51 [l0, l1, l2] (psh v st) M' Q) := w_callV mC_98 d98_48 (ci := 11) rfl rfl rfl (Nat.le_of_ble_eq_true rfl) (by decide) rfl hl (Or.inl hk)
theorem d98_51 : decode cX11_bars 51 = .ok (.ireturn, 1) := by decide +kernel
theorem k98_51 {d : Nat} {l0 l1 l2 : Option PV} {M : Mem} {Q : Option PV → Mem → Prop} {x : Int32} : WP d 98 51 [l0, l1, l2] ([vi x]) M Q = Q (some (vi x)) M := w_iret mC_98 d98_51 rfl
theorem d99_0 : decode cX11_nextTogether 0 = .ok (.iconst 1, 1) := by decide +kernel
theorem k99_0 {d : Nat} {l0 l1 l2 : Option PV} {st : List PV} {M : Mem} {Q : Option PV → Mem → Prop} : WP d 99 0 [l0, l1, l2] (st) M Q = WP d 99 1 [l0, l1, l2] (vi 1 :: st) M Q := w_iconst mC_99 d99_0 (by decide)
theorem d99_1 : decode cX11_nextTogether 1 = .ok (.istore_n 2, 1) := by decide +kernel
theorem k99_1 {d : Nat} {l0 l1 l2 : Option PV} {st : List PV} {M : Mem} {Q : Option PV → Mem → Prop} {x : Int32} : WP d 99 1 [l0, l1, l2] (vi x :: st) M Q = WP d 99 2 [l0, l1, some (vi x)] (st) M Q := w1 mC_99 d99_1 rfl rfl
theorem d99_2 : decode cX11_nextTogether 2 = .ok (.iload_n 2, 1) := by decide +kernel
theorem k99_2 {d : Nat} {x : Int32} {l0 l1 : Option PV} {st : List PV} {M : Mem} {Q : Option PV → Mem → Prop} : WP d 99 2 [l0, l1, some (vi x)] (st) M Q = WP d 99 3 [l0, l1, some (vi x)] (vi x :: st) M Q := w1 mC_99 d99_2 rfl rfl
theorem d99_3 : decode cX11_nextTogether 3 = .ok (.sipush 2520, 3) := by decide +kernel
theorem k99_3 {d : Nat} {l0 l1 l2 : Option PV} {st : List PV} {M : Mem} {Q : Option PV → Mem → Prop} : WP d 99 3 [l0, l1, l2] (st) M Q = WP d 99 6 [l0, l1, l2] (vi 2520 :: st) M Q := w_sipush mC_99 d99_3 (by decide)
theorem d99_6 : decode cX11_nextTogether 6 = .ok (.if_icmp .ge 24, 3) := by decide +kernel
theorem k99_6 {d : Nat} {l0 l1 l2 : Option PV} {st : List PV} {M : Mem} {Q : Option PV → Mem → Prop} {x y : Int32} : WP d 99 6 [l0, l1, l2] (vi y :: vi x :: st) M Q = (if y ≤ x then WP d 99 30 [l0, l1, l2] (st) M Q else WP d 99 9 [l0, l1, l2] (st) M Q) := w_ic_ge mC_99 d99_6 (by decide)
theorem d99_9 : decode cX11_nextTogether 9 = .ok (.aload_n 0, 1) := by decide +kernel
theorem k99_9 {d x : Nat} {l1 l2 : Option PV} {st : List PV} {M : Mem} {Q : Option PV → Mem → Prop} : WP d 99 9 [some (vr x), l1, l2] (st) M Q = WP d 99 10 [some (vr x), l1, l2] (vr x :: st) M Q := w1 mC_99 d99_9 rfl rfl
theorem d99_10 : decode cX11_nextTogether 10 = .ok (.iload_n 2, 1) := by decide +kernel
theorem k99_10 {d : Nat} {x : Int32} {l0 l1 : Option PV} {st : List PV} {M : Mem} {Q : Option PV → Mem → Prop} : WP d 99 10 [l0, l1, some (vi x)] (st) M Q = WP d 99 11 [l0, l1, some (vi x)] (vi x :: st) M Q := w1 mC_99 d99_10 rfl rfl
theorem d99_11 : decode cX11_nextTogether 11 = .ok (.iload_n 1, 1) := by decide +kernel
theorem k99_11 {d : Nat} {x : Int32} {l0 l2 : Option PV} {st : List PV} {M : Mem} {Q : Option PV → Mem → Prop} : WP d 99 11 [l0, some (vi x), l2] (st) M Q = WP d 99 12 [l0, some (vi x), l2] (vi x :: st) M Q := w1 mC_99 d99_11 rfl rfl
theorem d99_12 : decode cX11_nextTogether 12 = .ok (.invokevirtual 226, 3) := by decide +kernel
theorem k99_12 {d : Nat} {l0 l1 l2 : Option PV} {st : List PV} {M : Mem} {Q : Option PV → Mem → Prop} {a0 a1 : Int32} {r : Nat} (hl : szL st ≤ 8) (hk : mK M r = 11) : WP (d + 1) 99 12 [l0, l1, l2] (vi a1 :: vi a0 :: vr r :: st) M Q = WP d 100 0 [some (vr r), some (vi a0), some (vi a1), none, none, none] [] M (fun v M' => WP (d + 1) 99 15 [l0, l1, l2] (psh v st) M' Q) := w_callV mC_99 d99_12 (ci := 11) rfl rfl rfl (Nat.le_of_ble_eq_true rfl) (by decide) rfl hl (Or.inl hk)
theorem d99_15 : decode cX11_nextTogether 15 = .ok (.iload_n 1, 1) := by decide +kernel
theorem k99_15 {d : Nat} {x : Int32} {l0 l2 : Option PV} {st : List PV} {M : Mem} {Q : Option PV → Mem → Prop} : WP d 99 15 [l0, some (vi x), l2] (st) M Q = WP d 99 16 [l0, some (vi x), l2] (vi x :: st) M Q := w1 mC_99 d99_15 rfl rfl
theorem d99_16 : decode cX11_nextTogether 16 = .ok (.invokestatic 229, 3) := by decide +kernel
theorem k99_16 {d : Nat} {l0 l1 l2 : Option PV} {st : List PV} {M : Mem} {Q : Option PV → Mem → Prop} {a0 : Int32} (hl : szL st ≤ 8) : WP (d + 1) 99 16 [l0, l1, l2] (vi a0 :: st) M Q = WP d 247 0 [some (vi a0)] [] M (fun v M' => WP (d + 1) 99 19 [l0, l1, l2] (psh v st) M' Q) := w_callS mC_99 d99_16 rfl rfl (Nat.le_of_ble_eq_true rfl) (by decide) rfl hl
theorem d99_19 : decode cX11_nextTogether 19 = .ok (.if_icmp .ne 5, 3) := by decide +kernel
theorem k99_19 {d : Nat} {l0 l1 l2 : Option PV} {st : List PV} {M : Mem} {Q : Option PV → Mem → Prop} {x y : Int32} : WP d 99 19 [l0, l1, l2] (vi y :: vi x :: st) M Q = (if x = y then WP d 99 22 [l0, l1, l2] (st) M Q else WP d 99 24 [l0, l1, l2] (st) M Q) := w_ic_ne mC_99 d99_19 (by decide)
theorem d99_22 : decode cX11_nextTogether 22 = .ok (.iload_n 2, 1) := by decide +kernel
theorem k99_22 {d : Nat} {x : Int32} {l0 l1 : Option PV} {st : List PV} {M : Mem} {Q : Option PV → Mem → Prop} : WP d 99 22 [l0, l1, some (vi x)] (st) M Q = WP d 99 23 [l0, l1, some (vi x)] (vi x :: st) M Q := w1 mC_99 d99_22 rfl rfl
theorem d99_23 : decode cX11_nextTogether 23 = .ok (.ireturn, 1) := by decide +kernel
theorem k99_23 {d : Nat} {l0 l1 l2 : Option PV} {M : Mem} {Q : Option PV → Mem → Prop} {x : Int32} : WP d 99 23 [l0, l1, l2] ([vi x]) M Q = Q (some (vi x)) M := w_iret mC_99 d99_23 rfl
theorem d99_24 : decode cX11_nextTogether 24 = .ok (.iinc 2 1, 3) := by decide +kernel
theorem k99_24 {d : Nat} {x : Int32} {l0 l1 : Option PV} {st : List PV} {M : Mem} {Q : Option PV → Mem → Prop} : WP d 99 24 [l0, l1, some (vi x)] (st) M Q = WP d 99 27 [l0, l1, some (vi (x + 1))] (st) M Q := w_iinc mC_99 d99_24 rfl (by decide) rfl
theorem d99_27 : decode cX11_nextTogether 27 = .ok (.goto (-25), 3) := by decide +kernel
theorem k99_27 {d : Nat} {l0 l1 l2 : Option PV} {st : List PV} {M : Mem} {Q : Option PV → Mem → Prop} : WP d 99 27 [l0, l1, l2] (st) M Q = WP d 99 2 [l0, l1, l2] (st) M Q := w_goto mC_99 d99_27 (by decide)
theorem d99_30 : decode cX11_nextTogether 30 = .ok (.sipush 2520, 3) := by decide +kernel
theorem k99_30 {d : Nat} {l0 l1 l2 : Option PV} {st : List PV} {M : Mem} {Q : Option PV → Mem → Prop} : WP d 99 30 [l0, l1, l2] (st) M Q = WP d 99 33 [l0, l1, l2] (vi 2520 :: st) M Q := w_sipush mC_99 d99_30 (by decide)
theorem d99_33 : decode cX11_nextTogether 33 = .ok (.ireturn, 1) := by decide +kernel
theorem k99_33 {d : Nat} {l0 l1 l2 : Option PV} {M : Mem} {Q : Option PV → Mem → Prop} {x : Int32} : WP d 99 33 [l0, l1, l2] ([vi x]) M Q = Q (some (vi x)) M := w_iret mC_99 d99_33 rfl
theorem d100_0 : decode cX11_beginningAt 0 = .ok (.iconst 0, 1) := by decide +kernel
theorem k100_0 {d : Nat} {l0 l1 l2 l3 l4 l5 : Option PV} {st : List PV} {M : Mem} {Q : Option PV → Mem → Prop} : WP d 100 0 [l0, l1, l2, l3, l4, l5] (st) M Q = WP d 100 1 [l0, l1, l2, l3, l4, l5] (vi 0 :: st) M Q := w_iconst mC_100 d100_0 (by decide)
theorem d100_1 : decode cX11_beginningAt 1 = .ok (.istore_n 3, 1) := by decide +kernel
theorem k100_1 {d : Nat} {l0 l1 l2 l3 l4 l5 : Option PV} {st : List PV} {M : Mem} {Q : Option PV → Mem → Prop} {x : Int32} : WP d 100 1 [l0, l1, l2, l3, l4, l5] (vi x :: st) M Q = WP d 100 2 [l0, l1, l2, some (vi x), l4, l5] (st) M Q := w1 mC_100 d100_1 rfl rfl
theorem d100_2 : decode cX11_beginningAt 2 = .ok (.iconst 0, 1) := by decide +kernel
theorem k100_2 {d : Nat} {l0 l1 l2 l3 l4 l5 : Option PV} {st : List PV} {M : Mem} {Q : Option PV → Mem → Prop} : WP d 100 2 [l0, l1, l2, l3, l4, l5] (st) M Q = WP d 100 3 [l0, l1, l2, l3, l4, l5] (vi 0 :: st) M Q := w_iconst mC_100 d100_2 (by decide)
theorem d100_3 : decode cX11_beginningAt 3 = .ok (.istore 4, 2) := by decide +kernel
theorem k100_3 {d : Nat} {l0 l1 l2 l3 l4 l5 : Option PV} {st : List PV} {M : Mem} {Q : Option PV → Mem → Prop} {x : Int32} : WP d 100 3 [l0, l1, l2, l3, l4, l5] (vi x :: st) M Q = WP d 100 5 [l0, l1, l2, l3, some (vi x), l5] (st) M Q := w1 mC_100 d100_3 rfl rfl
theorem d100_5 : decode cX11_beginningAt 5 = .ok (.iload 4, 2) := by decide +kernel
theorem k100_5 {d : Nat} {x : Int32} {l0 l1 l2 l3 l5 : Option PV} {st : List PV} {M : Mem} {Q : Option PV → Mem → Prop} : WP d 100 5 [l0, l1, l2, l3, some (vi x), l5] (st) M Q = WP d 100 7 [l0, l1, l2, l3, some (vi x), l5] (vi x :: st) M Q := w1 mC_100 d100_5 rfl rfl
theorem d100_7 : decode cX11_beginningAt 7 = .ok (.aload_n 0, 1) := by decide +kernel
theorem k100_7 {d x : Nat} {l1 l2 l3 l4 l5 : Option PV} {st : List PV} {M : Mem} {Q : Option PV → Mem → Prop} : WP d 100 7 [some (vr x), l1, l2, l3, l4, l5] (st) M Q = WP d 100 8 [some (vr x), l1, l2, l3, l4, l5] (vr x :: st) M Q := w1 mC_100 d100_7 rfl rfl
theorem d100_8 : decode cX11_beginningAt 8 = .ok (.getfield 10, 3) := by decide +kernel
theorem k100_8 {d : Nat} {l0 l1 l2 l3 l4 l5 : Option PV} {st : List PV} {M : Mem} {Q : Option PV → Mem → Prop} {r : Nat} (hk : mK M r = 11) : WP d 100 8 [l0, l1, l2, l3, l4, l5] (vr r :: st) M Q = WP d 100 11 [l0, l1, l2, l3, l4, l5] (vr (mR M r 0) :: st) M Q := w_getr mC_100 d100_8 fE_11_10 rfl (by rw [hk]; rfl)
theorem d100_11 : decode cX11_beginningAt 11 = .ok (.getfield 187, 3) := by decide +kernel
theorem k100_11 {d : Nat} {l0 l1 l2 l3 l4 l5 : Option PV} {st : List PV} {M : Mem} {Q : Option PV → Mem → Prop} {r : Nat} (hk : mK M r = 4) : WP d 100 11 [l0, l1, l2, l3, l4, l5] (vr r :: st) M Q = WP d 100 14 [l0, l1, l2, l3, l4, l5] (vi (mI M r 8) :: st) M Q := w_get mC_100 d100_11 fE_11_187 rfl (by rw [hk]; rfl)
theorem d100_14 : decode cX11_beginningAt 14 = .ok (.if_icmp .ge 47, 3) := by decide +kernel
theorem k100_14 {d : Nat} {l0 l1 l2 l3 l4 l5 : Option PV} {st : List PV} {M : Mem} {Q : Option PV → Mem → Prop} {x y : Int32} : WP d 100 14 [l0, l1, l2, l3, l4, l5] (vi y :: vi x :: st) M Q = (if y ≤ x then WP d 100 61 [l0, l1, l2, l3, l4, l5] (st) M Q else WP d 100 17 [l0, l1, l2, l3, l4, l5] (st) M Q) := w_ic_ge mC_100 d100_14 (by decide)
theorem d100_17 : decode cX11_beginningAt 17 = .ok (.aload_n 0, 1) := by decide +kernel
theorem k100_17 {d x : Nat} {l1 l2 l3 l4 l5 : Option PV} {st : List PV} {M : Mem} {Q : Option PV → Mem → Prop} : WP d 100 17 [some (vr x), l1, l2, l3, l4, l5] (st) M Q = WP d 100 18 [some (vr x), l1, l2, l3, l4, l5] (vr x :: st) M Q := w1 mC_100 d100_17 rfl rfl
theorem d100_18 : decode cX11_beginningAt 18 = .ok (.getfield 10, 3) := by decide +kernel
theorem k100_18 {d : Nat} {l0 l1 l2 l3 l4 l5 : Option PV} {st : List PV} {M : Mem} {Q : Option PV → Mem → Prop} {r : Nat} (hk : mK M r = 11) : WP d 100 18 [l0, l1, l2, l3, l4, l5] (vr r :: st) M Q = WP d 100 21 [l0, l1, l2, l3, l4, l5] (vr (mR M r 0) :: st) M Q := w_getr mC_100 d100_18 fE_11_10 rfl (by rw [hk]; rfl)
theorem d100_21 : decode cX11_beginningAt 21 = .ok (.getfield 234, 3) := by decide +kernel
theorem k100_21 {d : Nat} {l0 l1 l2 l3 l4 l5 : Option PV} {st : List PV} {M : Mem} {Q : Option PV → Mem → Prop} {r : Nat} (hk : mK M r = 4) : WP d 100 21 [l0, l1, l2, l3, l4, l5] (vr r :: st) M Q = WP d 100 24 [l0, l1, l2, l3, l4, l5] (vr (mR M r 3) :: st) M Q := w_getr mC_100 d100_21 fE_11_234 rfl (by rw [hk]; rfl)
theorem d100_24 : decode cX11_beginningAt 24 = .ok (.iload 4, 2) := by decide +kernel
theorem k100_24 {d : Nat} {x : Int32} {l0 l1 l2 l3 l5 : Option PV} {st : List PV} {M : Mem} {Q : Option PV → Mem → Prop} : WP d 100 24 [l0, l1, l2, l3, some (vi x), l5] (st) M Q = WP d 100 26 [l0, l1, l2, l3, some (vi x), l5] (vi x :: st) M Q := w1 mC_100 d100_24 rfl rfl
theorem d100_26 : decode cX11_beginningAt 26 = .ok (.iaload, 1) := by decide +kernel
theorem k100_26 {d : Nat} {l0 l1 l2 l3 l4 l5 : Option PV} {st : List PV} {M : Mem} {Q : Option PV → Mem → Prop} {r : Nat} {j : Int32} (hk : mK M r = 13) (hj : inb j (mN M r)) (_h1 : r ≠ 1) : WP d 100 26 [l0, l1, l2, l3, l4, l5] (vi j :: vr r :: st) M Q = WP d 100 27 [l0, l1, l2, l3, l4, l5] (vi (mI M r (ix j)) :: st) M Q := w_iald mC_100 d100_26 hk hj
theorem d100_27 : decode cX11_beginningAt 27 = .ok (.iconst 1, 1) := by decide +kernel
theorem k100_27 {d : Nat} {l0 l1 l2 l3 l4 l5 : Option PV} {st : List PV} {M : Mem} {Q : Option PV → Mem → Prop} : WP d 100 27 [l0, l1, l2, l3, l4, l5] (st) M Q = WP d 100 28 [l0, l1, l2, l3, l4, l5] (vi 1 :: st) M Q := w_iconst mC_100 d100_27 (by decide)
theorem d100_28 : decode cX11_beginningAt 28 = .ok (.iadd, 1) := by decide +kernel
theorem k100_28 {d : Nat} {l0 l1 l2 l3 l4 l5 : Option PV} {st : List PV} {M : Mem} {Q : Option PV → Mem → Prop} {x y : Int32} : WP d 100 28 [l0, l1, l2, l3, l4, l5] (vi y :: vi x :: st) M Q = WP d 100 29 [l0, l1, l2, l3, l4, l5] (vi (x + y) :: st) M Q := w1 mC_100 d100_28 rfl rfl
theorem d100_29 : decode cX11_beginningAt 29 = .ok (.istore 5, 2) := by decide +kernel
theorem k100_29 {d : Nat} {l0 l1 l2 l3 l4 l5 : Option PV} {st : List PV} {M : Mem} {Q : Option PV → Mem → Prop} {x : Int32} : WP d 100 29 [l0, l1, l2, l3, l4, l5] (vi x :: st) M Q = WP d 100 31 [l0, l1, l2, l3, l4, some (vi x)] (st) M Q := w1 mC_100 d100_29 rfl rfl
theorem d100_31 : decode cX11_beginningAt 31 = .ok (.iload_n 2, 1) := by decide +kernel
theorem k100_31 {d : Nat} {x : Int32} {l0 l1 l3 l4 l5 : Option PV} {st : List PV} {M : Mem} {Q : Option PV → Mem → Prop} : WP d 100 31 [l0, l1, some (vi x), l3, l4, l5] (st) M Q = WP d 100 32 [l0, l1, some (vi x), l3, l4, l5] (vi x :: st) M Q := w1 mC_100 d100_31 rfl rfl
theorem d100_32 : decode cX11_beginningAt 32 = .ok (.iconst 1, 1) := by decide +kernel
theorem k100_32 {d : Nat} {l0 l1 l2 l3 l4 l5 : Option PV} {st : List PV} {M : Mem} {Q : Option PV → Mem → Prop} : WP d 100 32 [l0, l1, l2, l3, l4, l5] (st) M Q = WP d 100 33 [l0, l1, l2, l3, l4, l5] (vi 1 :: st) M Q := w_iconst mC_100 d100_32 (by decide)
theorem d100_33 : decode cX11_beginningAt 33 = .ok (.iload 4, 2) := by decide +kernel
theorem k100_33 {d : Nat} {x : Int32} {l0 l1 l2 l3 l5 : Option PV} {st : List PV} {M : Mem} {Q : Option PV → Mem → Prop} : WP d 100 33 [l0, l1, l2, l3, some (vi x), l5] (st) M Q = WP d 100 35 [l0, l1, l2, l3, some (vi x), l5] (vi x :: st) M Q := w1 mC_100 d100_33 rfl rfl
theorem d100_35 : decode cX11_beginningAt 35 = .ok (.ishl, 1) := by decide +kernel
theorem k100_35 {d : Nat} {l0 l1 l2 l3 l4 l5 : Option PV} {st : List PV} {M : Mem} {Q : Option PV → Mem → Prop} {x y : Int32} : WP d 100 35 [l0, l1, l2, l3, l4, l5] (vi y :: vi x :: st) M Q = WP d 100 36 [l0, l1, l2, l3, l4, l5] (vi (x <<< (y &&& 31)) :: st) M Q := w1 mC_100 d100_35 rfl rfl
theorem d100_36 : decode cX11_beginningAt 36 = .ok (.iand, 1) := by decide +kernel
theorem k100_36 {d : Nat} {l0 l1 l2 l3 l4 l5 : Option PV} {st : List PV} {M : Mem} {Q : Option PV → Mem → Prop} {x y : Int32} : WP d 100 36 [l0, l1, l2, l3, l4, l5] (vi y :: vi x :: st) M Q = WP d 100 37 [l0, l1, l2, l3, l4, l5] (vi (x &&& y) :: st) M Q := w1 mC_100 d100_36 rfl rfl
theorem d100_37 : decode cX11_beginningAt 37 = .ok (.ifCond .eq 18, 3) := by decide +kernel
theorem k100_37 {d : Nat} {l0 l1 l2 l3 l4 l5 : Option PV} {st : List PV} {M : Mem} {Q : Option PV → Mem → Prop} {x : Int32} : WP d 100 37 [l0, l1, l2, l3, l4, l5] (vi x :: st) M Q = (if x = 0 then WP d 100 55 [l0, l1, l2, l3, l4, l5] (st) M Q else WP d 100 40 [l0, l1, l2, l3, l4, l5] (st) M Q) := w_if_eq mC_100 d100_37 (by decide)
theorem d100_40 : decode cX11_beginningAt 40 = .ok (.iload 5, 2) := by decide +kernel
theorem k100_40 {d : Nat} {x : Int32} {l0 l1 l2 l3 l4 : Option PV} {st : List PV} {M : Mem} {Q : Option PV → Mem → Prop} : WP d 100 40 [l0, l1, l2, l3, l4, some (vi x)] (st) M Q = WP d 100 42 [l0, l1, l2, l3, l4, some (vi x)] (vi x :: st) M Q := w1 mC_100 d100_40 rfl rfl
theorem d100_42 : decode cX11_beginningAt 42 = .ok (.ifCond .le 13, 3) := by decide +kernel
theorem k100_42 {d : Nat} {l0 l1 l2 l3 l4 l5 : Option PV} {st : List PV} {M : Mem} {Q : Option PV → Mem → Prop} {x : Int32} : WP d 100 42 [l0, l1, l2, l3, l4, l5] (vi x :: st) M Q = (if x ≤ 0 then WP d 100 55 [l0, l1, l2, l3, l4, l5] (st) M Q else WP d 100 45 [l0, l1, l2, l3, l4, l5] (st) M Q) := w_if_le mC_100 d100_42 (by decide)
theorem d100_45 : decode cX11_beginningAt 45 = .ok (.iload_n 1, 1) := by decide +kernel
theorem k100_45 {d : Nat} {x : Int32} {l0 l2 l3 l4 l5 : Option PV} {st : List PV} {M : Mem} {Q : Option PV → Mem → Prop} : WP d 100 45 [l0, some (vi x), l2, l3, l4, l5] (st) M Q = WP d 100 46 [l0, some (vi x), l2, l3, l4, l5] (vi x :: st) M Q := w1 mC_100 d100_45 rfl rfl
theorem d100_46 : decode cX11_beginningAt 46 = .ok (.iload 5, 2) := by decide +kernel
theorem k100_46 {d : Nat} {x : Int32} {l0 l1 l2 l3 l4 : Option PV} {st : List PV} {M : Mem} {Q : Option PV → Mem → Prop} : WP d 100 46 [l0, l1, l2, l3, l4, some (vi x)] (st) M Q = WP d 100 48 [l0, l1, l2, l3, l4, some (vi x)] (vi x :: st) M Q := w1 mC_100 d100_46 rfl rfl
theorem d100_48 : decode cX11_beginningAt 48 = .ok (.irem, 1) := by decide +kernel
theorem k100_48 {d : Nat} {l0 l1 l2 l3 l4 l5 : Option PV} {st : List PV} {M : Mem} {Q : Option PV → Mem → Prop} {x y : Int32} (h : y ≠ 0) : WP d 100 48 [l0, l1, l2, l3, l4, l5] (vi y :: vi x :: st) M Q = WP d 100 49 [l0, l1, l2, l3, l4, l5] (vi (x % y) :: st) M Q := w_rem mC_100 d100_48 h
theorem d100_49 : decode cX11_beginningAt 49 = .ok (.ifCond .ne 6, 3) := by decide +kernel
theorem k100_49 {d : Nat} {l0 l1 l2 l3 l4 l5 : Option PV} {st : List PV} {M : Mem} {Q : Option PV → Mem → Prop} {x : Int32} : WP d 100 49 [l0, l1, l2, l3, l4, l5] (vi x :: st) M Q = (if x = 0 then WP d 100 52 [l0, l1, l2, l3, l4, l5] (st) M Q else WP d 100 55 [l0, l1, l2, l3, l4, l5] (st) M Q) := w_if_ne mC_100 d100_49 (by decide)
theorem d100_52 : decode cX11_beginningAt 52 = .ok (.iinc 3 1, 3) := by decide +kernel
theorem k100_52 {d : Nat} {x : Int32} {l0 l1 l2 l4 l5 : Option PV} {st : List PV} {M : Mem} {Q : Option PV → Mem → Prop} : WP d 100 52 [l0, l1, l2, some (vi x), l4, l5] (st) M Q = WP d 100 55 [l0, l1, l2, some (vi (x + 1)), l4, l5] (st) M Q := w_iinc mC_100 d100_52 rfl (by decide) rfl
theorem d100_55 : decode cX11_beginningAt 55 = .ok (.iinc 4 1, 3) := by decide +kernel
theorem k100_55 {d : Nat} {x : Int32} {l0 l1 l2 l3 l5 : Option PV} {st : List PV} {M : Mem} {Q : Option PV → Mem → Prop} : WP d 100 55 [l0, l1, l2, l3, some (vi x), l5] (st) M Q = WP d 100 58 [l0, l1, l2, l3, some (vi (x + 1)), l5] (st) M Q := w_iinc mC_100 d100_55 rfl (by decide) rfl
theorem d100_58 : decode cX11_beginningAt 58 = .ok (.goto (-53), 3) := by decide +kernel
theorem k100_58 {d : Nat} {l0 l1 l2 l3 l4 l5 : Option PV} {st : List PV} {M : Mem} {Q : Option PV → Mem → Prop} : WP d 100 58 [l0, l1, l2, l3, l4, l5] (st) M Q = WP d 100 5 [l0, l1, l2, l3, l4, l5] (st) M Q := w_goto mC_100 d100_58 (by decide)
theorem d100_61 : decode cX11_beginningAt 61 = .ok (.iload_n 3, 1) := by decide +kernel
theorem k100_61 {d : Nat} {x : Int32} {l0 l1 l2 l4 l5 : Option PV} {st : List PV} {M : Mem} {Q : Option PV → Mem → Prop} : WP d 100 61 [l0, l1, l2, some (vi x), l4, l5] (st) M Q = WP d 100 62 [l0, l1, l2, some (vi x), l4, l5] (vi x :: st) M Q := w1 mC_100 d100_61 rfl rfl
theorem d100_62 : decode cX11_beginningAt 62 = .ok (.ireturn, 1) := by decide +kernel
theorem k100_62 {d : Nat} {l0 l1 l2 l3 l4 l5 : Option PV} {M : Mem} {Q : Option PV → Mem → Prop} {x : Int32} : WP d 100 62 [l0, l1, l2, l3, l4, l5] ([vi x]) M Q = Q (some (vi x)) M := w_iret mC_100 d100_62 rfl
theorem d101_0 : decode cX11_stops 0 = .ok (.iload_n 1, 1) := by decide +kernel
theorem k101_0 {d : Nat} {x : Int32} {l0 l2 l3 l4 : Option PV} {st : List PV} {M : Mem} {Q : Option PV → Mem → Prop} : WP d 101 0 [l0, some (vi x), l2, l3, l4] (st) M Q = WP d 101 1 [l0, some (vi x), l2, l3, l4] (vi x :: st) M Q := w1 mC_101 d101_0 rfl rfl
theorem d101_1 : decode cX11_stops 1 = .ok (.iconst 0, 1) := by decide +kernel
theorem k101_1 {d : Nat} {l0 l1 l2 l3 l4 : Option PV} {st : List PV} {M : Mem} {Q : Option PV → Mem → Prop} : WP d 101 1 [l0, l1, l2, l3, l4] (st) M Q = WP d 101 2 [l0, l1, l2, l3, l4] (vi 0 :: st) M Q := w_iconst mC_101 d101_1 (by decide)
theorem d101_2 : decode cX11_stops 2 = .ok (.bipush 10, 2) := by decide +kernel
theorem k101_2 {d : Nat} {l0 l1 l2 l3 l4 : Option PV} {st : List PV} {M : Mem} {Q : Option PV → Mem → Prop} : WP d 101 2 [l0, l1, l2, l3, l4] (st) M Q = WP d 101 4 [l0, l1, l2, l3, l4] (vi 10 :: st) M Q := w_bipush mC_101 d101_2 (by decide)
theorem d101_4 : decode cX11_stops 4 = .ok (.invokestatic 79, 3) := by decide +kernel
theorem k101_4 {d : Nat} {l0 l1 l2 l3 l4 : Option PV} {st : List PV} {M : Mem} {Q : Option PV → Mem → Prop} {a0 a1 a2 : Int32} (hl : szL st ≤ 8) : WP (d + 1) 101 4 [l0, l1, l2, l3, l4] (vi a2 :: vi a1 :: vi a0 :: st) M Q = WP d 141 0 [some (vi a0), some (vi a1), some (vi a2)] [] M (fun v M' => WP (d + 1) 101 7 [l0, l1, l2, l3, l4] (psh v st) M' Q) := w_callS mC_101 d101_4 rfl rfl (Nat.le_of_ble_eq_true rfl) (by decide) rfl hl
theorem d101_7 : decode cX11_stops 7 = .ok (.ifCond .eq 12, 3) := by decide +kernel
theorem k101_7 {d : Nat} {l0 l1 l2 l3 l4 : Option PV} {st : List PV} {M : Mem} {Q : Option PV → Mem → Prop} {x : Int32} : WP d 101 7 [l0, l1, l2, l3, l4] (vi x :: st) M Q = (if x = 0 then WP d 101 19 [l0, l1, l2, l3, l4] (st) M Q else WP d 101 10 [l0, l1, l2, l3, l4] (st) M Q) := w_if_eq mC_101 d101_7 (by decide)
theorem d101_10 : decode cX11_stops 10 = .ok (.iload_n 2, 1) := by decide +kernel
theorem k101_10 {d : Nat} {x : Int32} {l0 l1 l3 l4 : Option PV} {st : List PV} {M : Mem} {Q : Option PV → Mem → Prop} : WP d 101 10 [l0, l1, some (vi x), l3, l4] (st) M Q = WP d 101 11 [l0, l1, some (vi x), l3, l4] (vi x :: st) M Q := w1 mC_101 d101_10 rfl rfl
theorem d101_11 : decode cX11_stops 11 = .ok (.iconst 0, 1) := by decide +kernel
theorem k101_11 {d : Nat} {l0 l1 l2 l3 l4 : Option PV} {st : List PV} {M : Mem} {Q : Option PV → Mem → Prop} : WP d 101 11 [l0, l1, l2, l3, l4] (st) M Q = WP d 101 12 [l0, l1, l2, l3, l4] (vi 0 :: st) M Q := w_iconst mC_101 d101_11 (by decide)
theorem d101_12 : decode cX11_stops 12 = .ok (.iconst 1, 1) := by decide +kernel
theorem k101_12 {d : Nat} {l0 l1 l2 l3 l4 : Option PV} {st : List PV} {M : Mem} {Q : Option PV → Mem → Prop} : WP d 101 12 [l0, l1, l2, l3, l4] (st) M Q = WP d 101 13 [l0, l1, l2, l3, l4] (vi 1 :: st) M Q := w_iconst mC_101 d101_12 (by decide)
theorem d101_13 : decode cX11_stops 13 = .ok (.invokestatic 79, 3) := by decide +kernel
theorem k101_13 {d : Nat} {l0 l1 l2 l3 l4 : Option PV} {st : List PV} {M : Mem} {Q : Option PV → Mem → Prop} {a0 a1 a2 : Int32} (hl : szL st ≤ 8) : WP (d + 1) 101 13 [l0, l1, l2, l3, l4] (vi a2 :: vi a1 :: vi a0 :: st) M Q = WP d 141 0 [some (vi a0), some (vi a1), some (vi a2)] [] M (fun v M' => WP (d + 1) 101 16 [l0, l1, l2, l3, l4] (psh v st) M' Q) := w_callS mC_101 d101_13 rfl rfl (Nat.le_of_ble_eq_true rfl) (by decide) rfl hl
theorem d101_16 : decode cX11_stops 16 = .ok (.ifCond .ne 5, 3) := by decide +kernel
theorem k101_16 {d : Nat} {l0 l1 l2 l3 l4 : Option PV} {st : List PV} {M : Mem} {Q : Option PV → Mem → Prop} {x : Int32} : WP d 101 16 [l0, l1, l2, l3, l4] (vi x :: st) M Q = (if x = 0 then WP d 101 19 [l0, l1, l2, l3, l4] (st) M Q else WP d 101 21 [l0, l1, l2, l3, l4] (st) M Q) := w_if_ne mC_101 d101_16 (by decide)
theorem d101_19 : decode cX11_stops 19 = .ok (.iconst (-1), 1) := by decide +kernel
theorem k101_19 {d : Nat} {l0 l1 l2 l3 l4 : Option PV} {st : List PV} {M : Mem} {Q : Option PV → Mem → Prop} : WP d 101 19 [l0, l1, l2, l3, l4] (st) M Q = WP d 101 20 [l0, l1, l2, l3, l4] (vi (-1) :: st) M Q := w_iconst mC_101 d101_19 (by decide)
theorem d101_20 : decode cX11_stops 20 = .ok (.ireturn, 1) := by decide +kernel
theorem k101_20 {d : Nat} {l0 l1 l2 l3 l4 : Option PV} {M : Mem} {Q : Option PV → Mem → Prop} {x : Int32} : WP d 101 20 [l0, l1, l2, l3, l4] ([vi x]) M Q = Q (some (vi x)) M := w_iret mC_101 d101_20 rfl
theorem d101_21 : decode cX11_stops 21 = .ok (.iconst 1, 1) := by decide +kernel
theorem k101_21 {d : Nat} {l0 l1 l2 l3 l4 : Option PV} {st : List PV} {M : Mem} {Q : Option PV → Mem → Prop} : WP d 101 21 [l0, l1, l2, l3, l4] (st) M Q = WP d 101 22 [l0, l1, l2, l3, l4] (vi 1 :: st) M Q := w_iconst mC_101 d101_21 (by decide)
theorem d101_22 : decode cX11_stops 22 = .ok (.aload_n 0, 1) := by decide +kernel
theorem k101_22 {d x : Nat} {l1 l2 l3 l4 : Option PV} {st : List PV} {M : Mem} {Q : Option PV → Mem → Prop} : WP d 101 22 [some (vr x), l1, l2, l3, l4] (st) M Q = WP d 101 23 [some (vr x), l1, l2, l3, l4] (vr x :: st) M Q := w1 mC_101 d101_22 rfl rfl
theorem d101_23 : decode cX11_stops 23 = .ok (.getfield 10, 3) := by decide +kernel
theorem k101_23 {d : Nat} {l0 l1 l2 l3 l4 : Option PV} {st : List PV} {M : Mem} {Q : Option PV → Mem → Prop} {r : Nat} (hk : mK M r = 11) : WP d 101 23 [l0, l1, l2, l3, l4] (vr r :: st) M Q = WP d 101 26 [l0, l1, l2, l3, l4] (vr (mR M r 0) :: st) M Q := w_getr mC_101 d101_23 fE_11_10 rfl (by rw [hk]; rfl)
theorem d101_26 : decode cX11_stops 26 = .ok (.getfield 187, 3) := by decide +kernel
theorem k101_26 {d : Nat} {l0 l1 l2 l3 l4 : Option PV} {st : List PV} {M : Mem} {Q : Option PV → Mem → Prop} {r : Nat} (hk : mK M r = 4) : WP d 101 26 [l0, l1, l2, l3, l4] (vr r :: st) M Q = WP d 101 29 [l0, l1, l2, l3, l4] (vi (mI M r 8) :: st) M Q := w_get mC_101 d101_26 fE_11_187 rfl (by rw [hk]; rfl)
theorem d101_29 : decode cX11_stops 29 = .ok (.ishl, 1) := by decide +kernel
theorem k101_29 {d : Nat} {l0 l1 l2 l3 l4 : Option PV} {st : List PV} {M : Mem} {Q : Option PV → Mem → Prop} {x y : Int32} : WP d 101 29 [l0, l1, l2, l3, l4] (vi y :: vi x :: st) M Q = WP d 101 30 [l0, l1, l2, l3, l4] (vi (x <<< (y &&& 31)) :: st) M Q := w1 mC_101 d101_29 rfl rfl
theorem d101_30 : decode cX11_stops 30 = .ok (.iconst 1, 1) := by decide +kernel
theorem k101_30 {d : Nat} {l0 l1 l2 l3 l4 : Option PV} {st : List PV} {M : Mem} {Q : Option PV → Mem → Prop} : WP d 101 30 [l0, l1, l2, l3, l4] (st) M Q = WP d 101 31 [l0, l1, l2, l3, l4] (vi 1 :: st) M Q := w_iconst mC_101 d101_30 (by decide)
theorem d101_31 : decode cX11_stops 31 = .ok (.isub, 1) := by decide +kernel
theorem k101_31 {d : Nat} {l0 l1 l2 l3 l4 : Option PV} {st : List PV} {M : Mem} {Q : Option PV → Mem → Prop} {x y : Int32} : WP d 101 31 [l0, l1, l2, l3, l4] (vi y :: vi x :: st) M Q = WP d 101 32 [l0, l1, l2, l3, l4] (vi (x - y) :: st) M Q := w1 mC_101 d101_31 rfl rfl
theorem d101_32 : decode cX11_stops 32 = .ok (.istore_n 3, 1) := by decide +kernel
theorem k101_32 {d : Nat} {l0 l1 l2 l3 l4 : Option PV} {st : List PV} {M : Mem} {Q : Option PV → Mem → Prop} {x : Int32} : WP d 101 32 [l0, l1, l2, l3, l4] (vi x :: st) M Q = WP d 101 33 [l0, l1, l2, some (vi x), l4] (st) M Q := w1 mC_101 d101_32 rfl rfl
theorem d101_33 : decode cX11_stops 33 = .ok (.iconst 0, 1) := by decide +kernel
theorem k101_33 {d : Nat} {l0 l1 l2 l3 l4 : Option PV} {st : List PV} {M : Mem} {Q : Option PV → Mem → Prop} : WP d 101 33 [l0, l1, l2, l3, l4] (st) M Q = WP d 101 34 [l0, l1, l2, l3, l4] (vi 0 :: st) M Q := w_iconst mC_101 d101_33 (by decide)
theorem d101_34 : decode cX11_stops 34 = .ok (.istore 4, 2) := by decide +kernel
theorem k101_34 {d : Nat} {l0 l1 l2 l3 l4 : Option PV} {st : List PV} {M : Mem} {Q : Option PV → Mem → Prop} {x : Int32} : WP d 101 34 [l0, l1, l2, l3, l4] (vi x :: st) M Q = WP d 101 36 [l0, l1, l2, l3, some (vi x)] (st) M Q := w1 mC_101 d101_34 rfl rfl
theorem d101_36 : decode cX11_stops 36 = .ok (.iload 4, 2) := by decide +kernel
theorem k101_36 {d : Nat} {x : Int32} {l0 l1 l2 l3 : Option PV} {st : List PV} {M : Mem} {Q : Option PV → Mem → Prop} : WP d 101 36 [l0, l1, l2, l3, some (vi x)] (st) M Q = WP d 101 38 [l0, l1, l2, l3, some (vi x)] (vi x :: st) M Q := w1 mC_101 d101_36 rfl rfl
theorem d101_38 : decode cX11_stops 38 = .ok (.iconst 1, 1) := by decide +kernel
theorem k101_38 {d : Nat} {l0 l1 l2 l3 l4 : Option PV} {st : List PV} {M : Mem} {Q : Option PV → Mem → Prop} : WP d 101 38 [l0, l1, l2, l3, l4] (st) M Q = WP d 101 39 [l0, l1, l2, l3, l4] (vi 1 :: st) M Q := w_iconst mC_101 d101_38 (by decide)
theorem d101_39 : decode cX11_stops 39 = .ok (.aload_n 0, 1) := by decide +kernel
theorem k101_39 {d x : Nat} {l1 l2 l3 l4 : Option PV} {st : List PV} {M : Mem} {Q : Option PV → Mem → Prop} : WP d 101 39 [some (vr x), l1, l2, l3, l4] (st) M Q = WP d 101 40 [some (vr x), l1, l2, l3, l4] (vr x :: st) M Q := w1 mC_101 d101_39 rfl rfl
theorem d101_40 : decode cX11_stops 40 = .ok (.getfield 10, 3) := by decide +kernel
theorem k101_40 {d : Nat} {l0 l1 l2 l3 l4 : Option PV} {st : List PV} {M : Mem} {Q : Option PV → Mem → Prop} {r : Nat} (hk : mK M r = 11) : WP d 101 40 [l0, l1, l2, l3, l4] (vr r :: st) M Q = WP d 101 43 [l0, l1, l2, l3, l4] (vr (mR M r 0) :: st) M Q := w_getr mC_101 d101_40 fE_11_10 rfl (by rw [hk]; rfl)
theorem d101_43 : decode cX11_stops 43 = .ok (.getfield 187, 3) := by decide +kernel
theorem k101_43 {d : Nat} {l0 l1 l2 l3 l4 : Option PV} {st : List PV} {M : Mem} {Q : Option PV → Mem → Prop} {r : Nat} (hk : mK M r = 4) : WP d 101 43 [l0, l1, l2, l3, l4] (vr r :: st) M Q = WP d 101 46 [l0, l1, l2, l3, l4] (vi (mI M r 8) :: st) M Q := w_get mC_101 d101_43 fE_11_187 rfl (by rw [hk]; rfl)
theorem d101_46 : decode cX11_stops 46 = .ok (.ishl, 1) := by decide +kernel
theorem k101_46 {d : Nat} {l0 l1 l2 l3 l4 : Option PV} {st : List PV} {M : Mem} {Q : Option PV → Mem → Prop} {x y : Int32} : WP d 101 46 [l0, l1, l2, l3, l4] (vi y :: vi x :: st) M Q = WP d 101 47 [l0, l1, l2, l3, l4] (vi (x <<< (y &&& 31)) :: st) M Q := w1 mC_101 d101_46 rfl rfl
theorem d101_47 : decode cX11_stops 47 = .ok (.if_icmp .ge 34, 3) := by decide +kernel
theorem k101_47 {d : Nat} {l0 l1 l2 l3 l4 : Option PV} {st : List PV} {M : Mem} {Q : Option PV → Mem → Prop} {x y : Int32} : WP d 101 47 [l0, l1, l2, l3, l4] (vi y :: vi x :: st) M Q = (if y ≤ x then WP d 101 81 [l0, l1, l2, l3, l4] (st) M Q else WP d 101 50 [l0, l1, l2, l3, l4] (st) M Q) := w_ic_ge mC_101 d101_47 (by decide)
theorem d101_50 : decode cX11_stops 50 = .ok (.iload 4, 2) := by decide +kernel
theorem k101_50 {d : Nat} {x : Int32} {l0 l1 l2 l3 : Option PV} {st : List PV} {M : Mem} {Q : Option PV → Mem → Prop} : WP d 101 50 [l0, l1, l2, l3, some (vi x)] (st) M Q = WP d 101 52 [l0, l1, l2, l3, some (vi x)] (vi x :: st) M Q := w1 mC_101 d101_50 rfl rfl
theorem d101_52 : decode cX11_stops 52 = .ok (.invokestatic 229, 3) := by decide +kernel
theorem k101_52 {d : Nat} {l0 l1 l2 l3 l4 : Option PV} {st : List PV} {M : Mem} {Q : Option PV → Mem → Prop} {a0 : Int32} (hl : szL st ≤ 8) : WP (d + 1) 101 52 [l0, l1, l2, l3, l4] (vi a0 :: st) M Q = WP d 247 0 [some (vi a0)] [] M (fun v M' => WP (d + 1) 101 55 [l0, l1, l2, l3, l4] (psh v st) M' Q) := w_callS mC_101 d101_52 rfl rfl (Nat.le_of_ble_eq_true rfl) (by decide) rfl hl
theorem d101_55 : decode cX11_stops 55 = .ok (.iload_n 3, 1) := by decide +kernel
theorem k101_55 {d : Nat} {x : Int32} {l0 l1 l2 l4 : Option PV} {st : List PV} {M : Mem} {Q : Option PV → Mem → Prop} : WP d 101 55 [l0, l1, l2, some (vi x), l4] (st) M Q = WP d 101 56 [l0, l1, l2, some (vi x), l4] (vi x :: st) M Q := w1 mC_101 d101_55 rfl rfl
theorem d101_56 : decode cX11_stops 56 = .ok (.invokestatic 229, 3) := by decide +kernel
theorem k101_56 {d : Nat} {l0 l1 l2 l3 l4 : Option PV} {st : List PV} {M : Mem} {Q : Option PV → Mem → Prop} {a0 : Int32} (hl : szL st ≤ 8) : WP (d + 1) 101 56 [l0, l1, l2, l3, l4] (vi a0 :: st) M Q = WP d 247 0 [some (vi a0)] [] M (fun v M' => WP (d + 1) 101 59 [l0, l1, l2, l3, l4] (psh v st) M' Q) := w_callS mC_101 d101_56 rfl rfl (Nat.le_of_ble_eq_true rfl) (by decide) rfl hl
theorem d101_59 : decode cX11_stops 59 = .ok (.if_icmp .ge 16, 3) := by decide +kernel
theorem k101_59 {d : Nat} {l0 l1 l2 l3 l4 : Option PV} {st : List PV} {M : Mem} {Q : Option PV → Mem → Prop} {x y : Int32} : WP d 101 59 [l0, l1, l2, l3, l4] (vi y :: vi x :: st) M Q = (if y ≤ x then WP d 101 75 [l0, l1, l2, l3, l4] (st) M Q else WP d 101 62 [l0, l1, l2, l3, l4] (st) M Q) := w_ic_ge mC_101 d101_59 (by decide)
theorem d101_62 : decode cX11_stops 62 = .ok (.aload_n 0, 1) := by decide +kernel
theorem k101_62 {d x : Nat} {l1 l2 l3 l4 : Option PV} {st : List PV} {M : Mem} {Q : Option PV → Mem → Prop} : WP d 101 62 [some (vr x), l1, l2, l3, l4] (st) M Q = WP d 101 63 [some (vr x), l1, l2, l3, l4] (vr x :: st) M Q := w1 mC_101 d101_62 rfl rfl
theorem d101_63 : decode cX11_stops 63 = .ok (.iload 4, 2) := by decide +kernel
theorem k101_63 {d : Nat} {x : Int32} {l0 l1 l2 l3 : Option PV} {st : List PV} {M : Mem} {Q : Option PV → Mem → Prop} : WP d 101 63 [l0, l1, l2, l3, some (vi x)] (st) M Q = WP d 101 65 [l0, l1, l2, l3, some (vi x)] (vi x :: st) M Q := w1 mC_101 d101_63 rfl rfl
theorem d101_65 : decode cX11_stops 65 = .ok (.iload_n 1, 1) := by decide +kernel
theorem k101_65 {d : Nat} {x : Int32} {l0 l2 l3 l4 : Option PV} {st : List PV} {M : Mem} {Q : Option PV → Mem → Prop} : WP d 101 65 [l0, some (vi x), l2, l3, l4] (st) M Q = WP d 101 66 [l0, some (vi x), l2, l3, l4] (vi x :: st) M Q := w1 mC_101 d101_65 rfl rfl
theorem d101_66 : decode cX11_stops 66 = .ok (.invokevirtual 237, 3) := by decide +kernel
theorem k101_66 {d : Nat} {l0 l1 l2 l3 l4 : Option PV} {st : List PV} {M : Mem} {Q : Option PV → Mem → Prop} {a0 a1 : Int32} {r : Nat} (hl : szL st ≤ 8) (hk : mK M r = 11) : WP (d + 1) 101 66 [l0, l1, l2, l3, l4] (vi a1 :: vi a0 :: vr r :: st) M Q = WP d 102 0 [some (vr r), some (vi a0), some (vi a1), none] [] M (fun v M' => WP (d + 1) 101 69 [l0, l1, l2, l3, l4] (psh v st) M' Q) := w_callV mC_101 d101_66 (ci := 11) rfl rfl rfl (Nat.le_of_ble_eq_true rfl) (by decide) rfl hl (Or.inl hk)
theorem d101_69 : decode cX11_stops 69 = .ok (.ifCond .eq 6, 3) := by decide +kernel
theorem k101_69 {d : Nat} {l0 l1 l2 l3 l4 : Option PV} {st : List PV} {M : Mem} {Q : Option PV → Mem → Prop} {x : Int32} : WP d 101 69 [l0, l1, l2, l3, l4] (vi x :: st) M Q = (if x = 0 then WP d 101 75 [l0, l1, l2, l3, l4] (st) M Q else WP d 101 72 [l0, l1, l2, l3, l4] (st) M Q) := w_if_eq mC_101 d101_69 (by decide)
theorem d101_72 : decode cX11_stops 72 = .ok (.iload 4, 2) := by decide +kernel
theorem k101_72 {d : Nat} {x : Int32} {l0 l1 l2 l3 : Option PV} {st : List PV} {M : Mem} {Q : Option PV → Mem → Prop} : WP d 101 72 [l0, l1, l2, l3, some (vi x)] (st) M Q = WP d 101 74 [l0, l1, l2, l3, some (vi x)] (vi x :: st) M Q := w1 mC_101 d101_72 rfl rfl
theorem d101_74 : decode cX11_stops 74 = .ok (.istore_n 3, 1) := by decide +kernel
theorem k101_74 {d : Nat} {l0 l1 l2 l3 l4 : Option PV} {st : List PV} {M : Mem} {Q : Option PV → Mem → Prop} {x : Int32} : WP d 101 74 [l0, l1, l2, l3, l4] (vi x :: st) M Q = WP d 101 75 [l0, l1, l2, some (vi x), l4] (st) M Q := w1 mC_101 d101_74 rfl rfl
theorem d101_75 : decode cX11_stops 75 = .ok (.iinc 4 1, 3) := by decide +kernel
theorem k101_75 {d : Nat} {x : Int32} {l0 l1 l2 l3 : Option PV} {st : List PV} {M : Mem} {Q : Option PV → Mem → Prop} : WP d 101 75 [l0, l1, l2, l3, some (vi x)] (st) M Q = WP d 101 78 [l0, l1, l2, l3, some (vi (x + 1))] (st) M Q := w_iinc mC_101 d101_75 rfl (by decide) rfl
theorem d101_78 : decode cX11_stops 78 = .ok (.goto (-42), 3) := by decide +kernel
theorem k101_78 {d : Nat} {l0 l1 l2 l3 l4 : Option PV} {st : List PV} {M : Mem} {Q : Option PV → Mem → Prop} : WP d 101 78 [l0, l1, l2, l3, l4] (st) M Q = WP d 101 36 [l0, l1, l2, l3, l4] (st) M Q := w_goto mC_101 d101_78 (by decide)
theorem d101_81 : decode cX11_stops 81 = .ok (.iload_n 2, 1) := by decide +kernel
theorem k101_81 {d : Nat} {x : Int32} {l0 l1 l3 l4 : Option PV} {st : List PV} {M : Mem} {Q : Option PV → Mem → Prop} : WP d 101 81 [l0, l1, some (vi x), l3, l4] (st) M Q = WP d 101 82 [l0, l1, some (vi x), l3, l4] (vi x :: st) M Q := w1 mC_101 d101_81 rfl rfl
theorem d101_82 : decode cX11_stops 82 = .ok (.ifCond .ne 10, 3) := by decide +kernel
theorem k101_82 {d : Nat} {l0 l1 l2 l3 l4 : Option PV} {st : List PV} {M : Mem} {Q : Option PV → Mem → Prop} {x : Int32} : WP d 101 82 [l0, l1, l2, l3, l4] (vi x :: st) M Q = (if x = 0 then WP d 101 85 [l0, l1, l2, l3, l4] (st) M Q else WP d 101 92 [l0, l1, l2, l3, l4] (st) M Q) := w_if_ne mC_101 d101_82 (by decide)
theorem d101_85 : decode cX11_stops 85 = .ok (.iload_n 3, 1) := by decide +kernel
theorem k101_85 {d : Nat} {x : Int32} {l0 l1 l2 l4 : Option PV} {st : List PV} {M : Mem} {Q : Option PV → Mem → Prop} : WP d 101 85 [l0, l1, l2, some (vi x), l4] (st) M Q = WP d 101 86 [l0, l1, l2, some (vi x), l4] (vi x :: st) M Q := w1 mC_101 d101_85 rfl rfl
theorem d101_86 : decode cX11_stops 86 = .ok (.invokestatic 229, 3) := by decide +kernel
theorem k101_86 {d : Nat} {l0 l1 l2 l3 l4 : Option PV} {st : List PV} {M : Mem} {Q : Option PV → Mem → Prop} {a0 : Int32} (hl : szL st ≤ 8) : WP (d + 1) 101 86 [l0, l1, l2, l3, l4] (vi a0 :: st) M Q = WP d 247 0 [some (vi a0)] [] M (fun v M' => WP (d + 1) 101 89 [l0, l1, l2, l3, l4] (psh v st) M' Q) := w_callS mC_101 d101_86 rfl rfl (Nat.le_of_ble_eq_true rfl) (by decide) rfl hl
theorem d101_89 : decode cX11_stops 89 = .ok (.goto 4, 3) := by decide +kernel
theorem k101_89 {d : Nat} {l0 l1 l2 l3 l4 : Option PV} {st : List PV} {M : Mem} {Q : Option PV → Mem → Prop} : WP d 101 89 [l0, l1, l2, l3, l4] (st) M Q = WP d 101 93 [l0, l1, l2, l3, l4] (st) M Q := w_goto mC_101 d101_89 (by decide)
theorem d101_92 : decode cX11_stops 92 = .ok (.iload_n 3, 1) := by decide +kernel
theorem k101_92 {d : Nat} {x : Int32} {l0 l1 l2 l4 : Option PV} {st : List PV} {M : Mem} {Q : Option PV → Mem → Prop} : WP d 101 92 [l0, l1, l2, some (vi x), l4] (st) M Q = WP d 101 93 [l0, l1, l2, some (vi x), l4] (vi x :: st) M Q := w1 mC_101 d101_92 rfl rfl
theorem d101_93 : decode cX11_stops 93 = .ok (.ireturn, 1) := by decide +kernel
theorem k101_93 {d : Nat} {l0 l1 l2 l3 l4 : Option PV} {M : Mem} {Q : Option PV → Mem → Prop} {x : Int32} : WP d 101 93 [l0, l1, l2, l3, l4] ([vi x]) M Q = Q (some (vi x)) M := w_iret mC_101 d101_93 rfl
theorem d102_0 : decode cX11_allHeardFrom 0 = .ok (.iconst 0, 1) := by decide +kernel
theorem k102_0 {d : Nat} {l0 l1 l2 l3 : Option PV} {st : List PV} {M : Mem} {Q : Option PV → Mem → Prop} : WP d 102 0 [l0, l1, l2, l3] (st) M Q = WP d 102 1 [l0, l1, l2, l3] (vi 0 :: st) M Q := w_iconst mC_102 d102_0 (by decide)
theorem d102_1 : decode cX11_allHeardFrom 1 = .ok (.istore_n 3, 1) := by decide +kernel
theorem k102_1 {d : Nat} {l0 l1 l2 l3 : Option PV} {st : List PV} {M : Mem} {Q : Option PV → Mem → Prop} {x : Int32} : WP d 102 1 [l0, l1, l2, l3] (vi x :: st) M Q = WP d 102 2 [l0, l1, l2, some (vi x)] (st) M Q := w1 mC_102 d102_1 rfl rfl
theorem d102_2 : decode cX11_allHeardFrom 2 = .ok (.iload_n 3, 1) := by decide +kernel
theorem k102_2 {d : Nat} {x : Int32} {l0 l1 l2 : Option PV} {st : List PV} {M : Mem} {Q : Option PV → Mem → Prop} : WP d 102 2 [l0, l1, l2, some (vi x)] (st) M Q = WP d 102 3 [l0, l1, l2, some (vi x)] (vi x :: st) M Q := w1 mC_102 d102_2 rfl rfl
theorem d102_3 : decode cX11_allHeardFrom 3 = .ok (.aload_n 0, 1) := by decide +kernel
theorem k102_3 {d x : Nat} {l1 l2 l3 : Option PV} {st : List PV} {M : Mem} {Q : Option PV → Mem → Prop} : WP d 102 3 [some (vr x), l1, l2, l3] (st) M Q = WP d 102 4 [some (vr x), l1, l2, l3] (vr x :: st) M Q := w1 mC_102 d102_3 rfl rfl
theorem d102_4 : decode cX11_allHeardFrom 4 = .ok (.getfield 10, 3) := by decide +kernel
theorem k102_4 {d : Nat} {l0 l1 l2 l3 : Option PV} {st : List PV} {M : Mem} {Q : Option PV → Mem → Prop} {r : Nat} (hk : mK M r = 11) : WP d 102 4 [l0, l1, l2, l3] (vr r :: st) M Q = WP d 102 7 [l0, l1, l2, l3] (vr (mR M r 0) :: st) M Q := w_getr mC_102 d102_4 fE_11_10 rfl (by rw [hk]; rfl)
theorem d102_7 : decode cX11_allHeardFrom 7 = .ok (.getfield 187, 3) := by decide +kernel
theorem k102_7 {d : Nat} {l0 l1 l2 l3 : Option PV} {st : List PV} {M : Mem} {Q : Option PV → Mem → Prop} {r : Nat} (hk : mK M r = 4) : WP d 102 7 [l0, l1, l2, l3] (vr r :: st) M Q = WP d 102 10 [l0, l1, l2, l3] (vi (mI M r 8) :: st) M Q := w_get mC_102 d102_7 fE_11_187 rfl (by rw [hk]; rfl)
theorem d102_10 : decode cX11_allHeardFrom 10 = .ok (.if_icmp .ge 21, 3) := by decide +kernel
theorem k102_10 {d : Nat} {l0 l1 l2 l3 : Option PV} {st : List PV} {M : Mem} {Q : Option PV → Mem → Prop} {x y : Int32} : WP d 102 10 [l0, l1, l2, l3] (vi y :: vi x :: st) M Q = (if y ≤ x then WP d 102 31 [l0, l1, l2, l3] (st) M Q else WP d 102 13 [l0, l1, l2, l3] (st) M Q) := w_ic_ge mC_102 d102_10 (by decide)
theorem d102_13 : decode cX11_allHeardFrom 13 = .ok (.aload_n 0, 1) := by decide +kernel
theorem k102_13 {d x : Nat} {l1 l2 l3 : Option PV} {st : List PV} {M : Mem} {Q : Option PV → Mem → Prop} : WP d 102 13 [some (vr x), l1, l2, l3] (st) M Q = WP d 102 14 [some (vr x), l1, l2, l3] (vr x :: st) M Q := w1 mC_102 d102_13 rfl rfl
theorem d102_14 : decode cX11_allHeardFrom 14 = .ok (.iload_n 1, 1) := by decide +kernel
theorem k102_14 {d : Nat} {x : Int32} {l0 l2 l3 : Option PV} {st : List PV} {M : Mem} {Q : Option PV → Mem → Prop} : WP d 102 14 [l0, some (vi x), l2, l3] (st) M Q = WP d 102 15 [l0, some (vi x), l2, l3] (vi x :: st) M Q := w1 mC_102 d102_14 rfl rfl
theorem d102_15 : decode cX11_allHeardFrom 15 = .ok (.iload_n 3, 1) := by decide +kernel
theorem k102_15 {d : Nat} {x : Int32} {l0 l1 l2 : Option PV} {st : List PV} {M : Mem} {Q : Option PV → Mem → Prop} : WP d 102 15 [l0, l1, l2, some (vi x)] (st) M Q = WP d 102 16 [l0, l1, l2, some (vi x)] (vi x :: st) M Q := w1 mC_102 d102_15 rfl rfl
theorem d102_16 : decode cX11_allHeardFrom 16 = .ok (.iload_n 2, 1) := by decide +kernel
theorem k102_16 {d : Nat} {x : Int32} {l0 l1 l3 : Option PV} {st : List PV} {M : Mem} {Q : Option PV → Mem → Prop} : WP d 102 16 [l0, l1, some (vi x), l3] (st) M Q = WP d 102 17 [l0, l1, some (vi x), l3] (vi x :: st) M Q := w1 mC_102 d102_16 rfl rfl
theorem d102_17 : decode cX11_allHeardFrom 17 = .ok (.invokevirtual 240, 3) := by decide +kernel
theorem k102_17 {d : Nat} {l0 l1 l2 l3 : Option PV} {st : List PV} {M : Mem} {Q : Option PV → Mem → Prop} {a0 a1 a2 : Int32} {r : Nat} (hl : szL st ≤ 8) (hk : mK M r = 11) : WP (d + 1) 102 17 [l0, l1, l2, l3] (vi a2 :: vi a1 :: vi a0 :: vr r :: st) M Q = WP d 103 0 [some (vr r), some (vi a0), some (vi a1), some (vi a2), none] [] M (fun v M' => WP (d + 1) 102 20 [l0, l1, l2, l3] (psh v st) M' Q) := w_callV mC_102 d102_17 (ci := 11) rfl rfl rfl (Nat.le_of_ble_eq_true rfl) (by decide) rfl hl (Or.inl hk)
theorem d102_20 : decode cX11_allHeardFrom 20 = .ok (.ifCond .ne 5, 3) := by decide +kernel
theorem k102_20 {d : Nat} {l0 l1 l2 l3 : Option PV} {st : List PV} {M : Mem} {Q : Option PV → Mem → Prop} {x : Int32} : WP d 102 20 [l0, l1, l2, l3] (vi x :: st) M Q = (if x = 0 then WP d 102 23 [l0, l1, l2, l3] (st) M Q else WP d 102 25 [l0, l1, l2, l3] (st) M Q) := w_if_ne mC_102 d102_20 (by decide)
theorem d102_23 : decode cX11_allHeardFrom 23 = .ok (.iconst 0, 1) := by decide +kernel
theorem k102_23 {d : Nat} {l0 l1 l2 l3 : Option PV} {st : List PV} {M : Mem} {Q : Option PV → Mem → Prop} : WP d 102 23 [l0, l1, l2, l3] (st) M Q = WP d 102 24 [l0, l1, l2, l3] (vi 0 :: st) M Q := w_iconst mC_102 d102_23 (by decide)
theorem d102_24 : decode cX11_allHeardFrom 24 = .ok (.ireturn, 1) := by decide +kernel
theorem k102_24 {d : Nat} {l0 l1 l2 l3 : Option PV} {M : Mem} {Q : Option PV → Mem → Prop} {x : Int32} (hx : x = 0 ∨ x = 1) : WP d 102 24 [l0, l1, l2, l3] ([vi x]) M Q = Q (some (vi x)) M := w_zret mC_102 d102_24 rfl hx
theorem d102_25 : decode cX11_allHeardFrom 25 = .ok (.iinc 3 1, 3) := by decide +kernel
theorem k102_25 {d : Nat} {x : Int32} {l0 l1 l2 : Option PV} {st : List PV} {M : Mem} {Q : Option PV → Mem → Prop} : WP d 102 25 [l0, l1, l2, some (vi x)] (st) M Q = WP d 102 28 [l0, l1, l2, some (vi (x + 1))] (st) M Q := w_iinc mC_102 d102_25 rfl (by decide) rfl
theorem d102_28 : decode cX11_allHeardFrom 28 = .ok (.goto (-26), 3) := by decide +kernel
theorem k102_28 {d : Nat} {l0 l1 l2 l3 : Option PV} {st : List PV} {M : Mem} {Q : Option PV → Mem → Prop} : WP d 102 28 [l0, l1, l2, l3] (st) M Q = WP d 102 2 [l0, l1, l2, l3] (st) M Q := w_goto mC_102 d102_28 (by decide)
theorem d102_31 : decode cX11_allHeardFrom 31 = .ok (.iconst 1, 1) := by decide +kernel
theorem k102_31 {d : Nat} {l0 l1 l2 l3 : Option PV} {st : List PV} {M : Mem} {Q : Option PV → Mem → Prop} : WP d 102 31 [l0, l1, l2, l3] (st) M Q = WP d 102 32 [l0, l1, l2, l3] (vi 1 :: st) M Q := w_iconst mC_102 d102_31 (by decide)
theorem d102_32 : decode cX11_allHeardFrom 32 = .ok (.ireturn, 1) := by decide +kernel
theorem k102_32 {d : Nat} {l0 l1 l2 l3 : Option PV} {M : Mem} {Q : Option PV → Mem → Prop} {x : Int32} (hx : x = 0 ∨ x = 1) : WP d 102 32 [l0, l1, l2, l3] ([vi x]) M Q = Q (some (vi x)) M := w_zret mC_102 d102_32 rfl hx
theorem d103_0 : decode cX11_isHeardFrom 0 = .ok (.iconst 0, 1) := by decide +kernel
theorem k103_0 {d : Nat} {l0 l1 l2 l3 l4 : Option PV} {st : List PV} {M : Mem} {Q : Option PV → Mem → Prop} : WP d 103 0 [l0, l1, l2, l3, l4] (st) M Q = WP d 103 1 [l0, l1, l2, l3, l4] (vi 0 :: st) M Q := w_iconst mC_103 d103_0 (by decide)
theorem d103_1 : decode cX11_isHeardFrom 1 = .ok (.istore 4, 2) := by decide +kernel
theorem k103_1 {d : Nat} {l0 l1 l2 l3 l4 : Option PV} {st : List PV} {M : Mem} {Q : Option PV → Mem → Prop} {x : Int32} : WP d 103 1 [l0, l1, l2, l3, l4] (vi x :: st) M Q = WP d 103 3 [l0, l1, l2, l3, some (vi x)] (st) M Q := w1 mC_103 d103_1 rfl rfl
theorem d103_3 : decode cX11_isHeardFrom 3 = .ok (.iload 4, 2) := by decide +kernel
theorem k103_3 {d : Nat} {x : Int32} {l0 l1 l2 l3 : Option PV} {st : List PV} {M : Mem} {Q : Option PV → Mem → Prop} : WP d 103 3 [l0, l1, l2, l3, some (vi x)] (st) M Q = WP d 103 5 [l0, l1, l2, l3, some (vi x)] (vi x :: st) M Q := w1 mC_103 d103_3 rfl rfl
theorem d103_5 : decode cX11_isHeardFrom 5 = .ok (.aload_n 0, 1) := by decide +kernel
theorem k103_5 {d x : Nat} {l1 l2 l3 l4 : Option PV} {st : List PV} {M : Mem} {Q : Option PV → Mem → Prop} : WP d 103 5 [some (vr x), l1, l2, l3, l4] (st) M Q = WP d 103 6 [some (vr x), l1, l2, l3, l4] (vr x :: st) M Q := w1 mC_103 d103_5 rfl rfl
theorem d103_6 : decode cX11_isHeardFrom 6 = .ok (.getfield 10, 3) := by decide +kernel
theorem k103_6 {d : Nat} {l0 l1 l2 l3 l4 : Option PV} {st : List PV} {M : Mem} {Q : Option PV → Mem → Prop} {r : Nat} (hk : mK M r = 11) : WP d 103 6 [l0, l1, l2, l3, l4] (vr r :: st) M Q = WP d 103 9 [l0, l1, l2, l3, l4] (vr (mR M r 0) :: st) M Q := w_getr mC_103 d103_6 fE_11_10 rfl (by rw [hk]; rfl)
theorem d103_9 : decode cX11_isHeardFrom 9 = .ok (.getfield 187, 3) := by decide +kernel
theorem k103_9 {d : Nat} {l0 l1 l2 l3 l4 : Option PV} {st : List PV} {M : Mem} {Q : Option PV → Mem → Prop} {r : Nat} (hk : mK M r = 4) : WP d 103 9 [l0, l1, l2, l3, l4] (vr r :: st) M Q = WP d 103 12 [l0, l1, l2, l3, l4] (vi (mI M r 8) :: st) M Q := w_get mC_103 d103_9 fE_11_187 rfl (by rw [hk]; rfl)
theorem d103_12 : decode cX11_isHeardFrom 12 = .ok (.if_icmp .ge 46, 3) := by decide +kernel
theorem k103_12 {d : Nat} {l0 l1 l2 l3 l4 : Option PV} {st : List PV} {M : Mem} {Q : Option PV → Mem → Prop} {x y : Int32} : WP d 103 12 [l0, l1, l2, l3, l4] (vi y :: vi x :: st) M Q = (if y ≤ x then WP d 103 58 [l0, l1, l2, l3, l4] (st) M Q else WP d 103 15 [l0, l1, l2, l3, l4] (st) M Q) := w_ic_ge mC_103 d103_12 (by decide)
theorem d103_15 : decode cX11_isHeardFrom 15 = .ok (.iload_n 1, 1) := by decide +kernel
theorem k103_15 {d : Nat} {x : Int32} {l0 l2 l3 l4 : Option PV} {st : List PV} {M : Mem} {Q : Option PV → Mem → Prop} : WP d 103 15 [l0, some (vi x), l2, l3, l4] (st) M Q = WP d 103 16 [l0, some (vi x), l2, l3, l4] (vi x :: st) M Q := w1 mC_103 d103_15 rfl rfl
theorem d103_16 : decode cX11_isHeardFrom 16 = .ok (.iconst 1, 1) := by decide +kernel
theorem k103_16 {d : Nat} {l0 l1 l2 l3 l4 : Option PV} {st : List PV} {M : Mem} {Q : Option PV → Mem → Prop} : WP d 103 16 [l0, l1, l2, l3, l4] (st) M Q = WP d 103 17 [l0, l1, l2, l3, l4] (vi 1 :: st) M Q := w_iconst mC_103 d103_16 (by decide)
theorem d103_17 : decode cX11_isHeardFrom 17 = .ok (.iload 4, 2) := by decide +kernel
theorem k103_17 {d : Nat} {x : Int32} {l0 l1 l2 l3 : Option PV} {st : List PV} {M : Mem} {Q : Option PV → Mem → Prop} : WP d 103 17 [l0, l1, l2, l3, some (vi x)] (st) M Q = WP d 103 19 [l0, l1, l2, l3, some (vi x)] (vi x :: st) M Q := w1 mC_103 d103_17 rfl rfl
theorem d103_19 : decode cX11_isHeardFrom 19 = .ok (.ishl, 1) := by decide +kernel
theorem k103_19 {d : Nat} {l0 l1 l2 l3 l4 : Option PV} {st : List PV} {M : Mem} {Q : Option PV → Mem → Prop} {x y : Int32} : WP d 103 19 [l0, l1, l2, l3, l4] (vi y :: vi x :: st) M Q = WP d 103 20 [l0, l1, l2, l3, l4] (vi (x <<< (y &&& 31)) :: st) M Q := w1 mC_103 d103_19 rfl rfl
theorem d103_20 : decode cX11_isHeardFrom 20 = .ok (.iand, 1) := by decide +kernel
theorem k103_20 {d : Nat} {l0 l1 l2 l3 l4 : Option PV} {st : List PV} {M : Mem} {Q : Option PV → Mem → Prop} {x y : Int32} : WP d 103 20 [l0, l1, l2, l3, l4] (vi y :: vi x :: st) M Q = WP d 103 21 [l0, l1, l2, l3, l4] (vi (x &&& y) :: st) M Q := w1 mC_103 d103_20 rfl rfl
theorem d103_21 : decode cX11_isHeardFrom 21 = .ok (.ifCond .eq 31, 3) := by decide +kernel
theorem k103_21 {d : Nat} {l0 l1 l2 l3 l4 : Option PV} {st : List PV} {M : Mem} {Q : Option PV → Mem → Prop} {x : Int32} : WP d 103 21 [l0, l1, l2, l3, l4] (vi x :: st) M Q = (if x = 0 then WP d 103 52 [l0, l1, l2, l3, l4] (st) M Q else WP d 103 24 [l0, l1, l2, l3, l4] (st) M Q) := w_if_eq mC_103 d103_21 (by decide)
theorem d103_24 : decode cX11_isHeardFrom 24 = .ok (.aload_n 0, 1) := by decide +kernel
theorem k103_24 {d x : Nat} {l1 l2 l3 l4 : Option PV} {st : List PV} {M : Mem} {Q : Option PV → Mem → Prop} : WP d 103 24 [some (vr x), l1, l2, l3, l4] (st) M Q = WP d 103 25 [some (vr x), l1, l2, l3, l4] (vr x :: st) M Q := w1 mC_103 d103_24 rfl rfl
theorem d103_25 : decode cX11_isHeardFrom 25 = .ok (.getfield 10, 3) := by decide +kernel
theorem k103_25 {d : Nat} {l0 l1 l2 l3 l4 : Option PV} {st : List PV} {M : Mem} {Q : Option PV → Mem → Prop} {r : Nat} (hk : mK M r = 11) : WP d 103 25 [l0, l1, l2, l3, l4] (vr r :: st) M Q = WP d 103 28 [l0, l1, l2, l3, l4] (vr (mR M r 0) :: st) M Q := w_getr mC_103 d103_25 fE_11_10 rfl (by rw [hk]; rfl)
theorem d103_28 : decode cX11_isHeardFrom 28 = .ok (.getfield 142, 3) := by decide +kernel
theorem k103_28 {d : Nat} {l0 l1 l2 l3 l4 : Option PV} {st : List PV} {M : Mem} {Q : Option PV → Mem → Prop} {r : Nat} (hk : mK M r = 4) : WP d 103 28 [l0, l1, l2, l3, l4] (vr r :: st) M Q = WP d 103 31 [l0, l1, l2, l3, l4] (vr (mR M r 2) :: st) M Q := w_getr mC_103 d103_28 fE_11_142 rfl (by rw [hk]; rfl)
theorem d103_31 : decode cX11_isHeardFrom 31 = .ok (.iload 4, 2) := by decide +kernel
theorem k103_31 {d : Nat} {x : Int32} {l0 l1 l2 l3 : Option PV} {st : List PV} {M : Mem} {Q : Option PV → Mem → Prop} : WP d 103 31 [l0, l1, l2, l3, some (vi x)] (st) M Q = WP d 103 33 [l0, l1, l2, l3, some (vi x)] (vi x :: st) M Q := w1 mC_103 d103_31 rfl rfl
theorem d103_33 : decode cX11_isHeardFrom 33 = .ok (.iaload, 1) := by decide +kernel
theorem k103_33 {d : Nat} {l0 l1 l2 l3 l4 : Option PV} {st : List PV} {M : Mem} {Q : Option PV → Mem → Prop} {r : Nat} {j : Int32} (hk : mK M r = 13) (hj : inb j (mN M r)) (_h1 : r ≠ 1) : WP d 103 33 [l0, l1, l2, l3, l4] (vi j :: vr r :: st) M Q = WP d 103 34 [l0, l1, l2, l3, l4] (vi (mI M r (ix j)) :: st) M Q := w_iald mC_103 d103_33 hk hj
theorem d103_34 : decode cX11_isHeardFrom 34 = .ok (.aload_n 0, 1) := by decide +kernel
theorem k103_34 {d x : Nat} {l1 l2 l3 l4 : Option PV} {st : List PV} {M : Mem} {Q : Option PV → Mem → Prop} : WP d 103 34 [some (vr x), l1, l2, l3, l4] (st) M Q = WP d 103 35 [some (vr x), l1, l2, l3, l4] (vr x :: st) M Q := w1 mC_103 d103_34 rfl rfl
theorem d103_35 : decode cX11_isHeardFrom 35 = .ok (.getfield 10, 3) := by decide +kernel
theorem k103_35 {d : Nat} {l0 l1 l2 l3 l4 : Option PV} {st : List PV} {M : Mem} {Q : Option PV → Mem → Prop} {r : Nat} (hk : mK M r = 11) : WP d 103 35 [l0, l1, l2, l3, l4] (vr r :: st) M Q = WP d 103 38 [l0, l1, l2, l3, l4] (vr (mR M r 0) :: st) M Q := w_getr mC_103 d103_35 fE_11_10 rfl (by rw [hk]; rfl)
theorem d103_38 : decode cX11_isHeardFrom 38 = .ok (.getfield 142, 3) := by decide +kernel
theorem k103_38 {d : Nat} {l0 l1 l2 l3 l4 : Option PV} {st : List PV} {M : Mem} {Q : Option PV → Mem → Prop} {r : Nat} (hk : mK M r = 4) : WP d 103 38 [l0, l1, l2, l3, l4] (vr r :: st) M Q = WP d 103 41 [l0, l1, l2, l3, l4] (vr (mR M r 2) :: st) M Q := w_getr mC_103 d103_38 fE_11_142 rfl (by rw [hk]; rfl)
theorem d103_41 : decode cX11_isHeardFrom 41 = .ok (.iload_n 2, 1) := by decide +kernel
theorem k103_41 {d : Nat} {x : Int32} {l0 l1 l3 l4 : Option PV} {st : List PV} {M : Mem} {Q : Option PV → Mem → Prop} : WP d 103 41 [l0, l1, some (vi x), l3, l4] (st) M Q = WP d 103 42 [l0, l1, some (vi x), l3, l4] (vi x :: st) M Q := w1 mC_103 d103_41 rfl rfl
theorem d103_42 : decode cX11_isHeardFrom 42 = .ok (.iaload, 1) := by decide +kernel
theorem k103_42 {d : Nat} {l0 l1 l2 l3 l4 : Option PV} {st : List PV} {M : Mem} {Q : Option PV → Mem → Prop} {r : Nat} {j : Int32} (hk : mK M r = 13) (hj : inb j (mN M r)) (_h1 : r ≠ 1) : WP d 103 42 [l0, l1, l2, l3, l4] (vi j :: vr r :: st) M Q = WP d 103 43 [l0, l1, l2, l3, l4] (vi (mI M r (ix j)) :: st) M Q := w_iald mC_103 d103_42 hk hj
theorem d103_43 : decode cX11_isHeardFrom 43 = .ok (.invokestatic 243, 3) := by decide +kernel
theorem k103_43 {d : Nat} {l0 l1 l2 l3 l4 : Option PV} {st : List PV} {M : Mem} {Q : Option PV → Mem → Prop} {a0 a1 : Int32} (hl : szL st ≤ 8) : WP (d + 1) 103 43 [l0, l1, l2, l3, l4] (vi a1 :: vi a0 :: st) M Q = WP d 33 0 [some (vi a0), some (vi a1)] [] M (fun v M' => WP (d + 1) 103 46 [l0, l1, l2, l3, l4] (psh v st) M' Q) := w_callS mC_103 d103_43 rfl rfl (Nat.le_of_ble_eq_true rfl) (by decide) rfl hl
theorem d103_46 : decode cX11_isHeardFrom 46 = .ok (.iload_n 3, 1) := by decide +kernel
theorem k103_46 {d : Nat} {x : Int32} {l0 l1 l2 l4 : Option PV} {st : List PV} {M : Mem} {Q : Option PV → Mem → Prop} : WP d 103 46 [l0, l1, l2, some (vi x), l4] (st) M Q = WP d 103 47 [l0, l1, l2, some (vi x), l4] (vi x :: st) M Q := w1 mC_103 d103_46 rfl rfl
theorem d103_47 : decode cX11_isHeardFrom 47 = .ok (.if_icmp .gt 5, 3) := by decide +kernel
theorem k103_47 {d : Nat} {l0 l1 l2 l3 l4 : Option PV} {st : List PV} {M : Mem} {Q : Option PV → Mem → Prop} {x y : Int32} : WP d 103 47 [l0, l1, l2, l3, l4] (vi y :: vi x :: st) M Q = (if y < x then WP d 103 52 [l0, l1, l2, l3, l4] (st) M Q else WP d 103 50 [l0, l1, l2, l3, l4] (st) M Q) := w_ic_gt mC_103 d103_47 (by decide)
theorem d103_50 : decode cX11_isHeardFrom 50 = .ok (.iconst 1, 1) := by decide +kernel
theorem k103_50 {d : Nat} {l0 l1 l2 l3 l4 : Option PV} {st : List PV} {M : Mem} {Q : Option PV → Mem → Prop} : WP d 103 50 [l0, l1, l2, l3, l4] (st) M Q = WP d 103 51 [l0, l1, l2, l3, l4] (vi 1 :: st) M Q := w_iconst mC_103 d103_50 (by decide)
theorem d103_51 : decode cX11_isHeardFrom 51 = .ok (.ireturn, 1) := by decide +kernel
theorem k103_51 {d : Nat} {l0 l1 l2 l3 l4 : Option PV} {M : Mem} {Q : Option PV → Mem → Prop} {x : Int32} (hx : x = 0 ∨ x = 1) : WP d 103 51 [l0, l1, l2, l3, l4] ([vi x]) M Q = Q (some (vi x)) M := w_zret mC_103 d103_51 rfl hx
theorem d103_52 : decode cX11_isHeardFrom 52 = .ok (.iinc 4 1, 3) := by decide +kernel
theorem k103_52 {d : Nat} {x : Int32} {l0 l1 l2 l3 : Option PV} {st : List PV} {M : Mem} {Q : Option PV → Mem → Prop} : WP d 103 52 [l0, l1, l2, l3, some (vi x)] (st) M Q = WP d 103 55 [l0, l1, l2, l3, some (vi (x + 1))] (st) M Q := w_iinc mC_103 d103_52 rfl (by decide) rfl
theorem d103_55 : decode cX11_isHeardFrom 55 = .ok (.goto (-52), 3) := by decide +kernel
theorem k103_55 {d : Nat} {l0 l1 l2 l3 l4 : Option PV} {st : List PV} {M : Mem} {Q : Option PV → Mem → Prop} : WP d 103 55 [l0, l1, l2, l3, l4] (st) M Q = WP d 103 3 [l0, l1, l2, l3, l4] (st) M Q := w_goto mC_103 d103_55 (by decide)
theorem d103_58 : decode cX11_isHeardFrom 58 = .ok (.iconst 0, 1) := by decide +kernel
theorem k103_58 {d : Nat} {l0 l1 l2 l3 l4 : Option PV} {st : List PV} {M : Mem} {Q : Option PV → Mem → Prop} : WP d 103 58 [l0, l1, l2, l3, l4] (st) M Q = WP d 103 59 [l0, l1, l2, l3, l4] (vi 0 :: st) M Q := w_iconst mC_103 d103_58 (by decide)
theorem d103_59 : decode cX11_isHeardFrom 59 = .ok (.ireturn, 1) := by decide +kernel
theorem k103_59 {d : Nat} {l0 l1 l2 l3 l4 : Option PV} {M : Mem} {Q : Option PV → Mem → Prop} {x : Int32} (hx : x = 0 ∨ x = 1) : WP d 103 59 [l0, l1, l2, l3, l4] ([vi x]) M Q = Q (some (vi x)) M := w_zret mC_103 d103_59 rfl hx
theorem d104_0 : decode cX11_judge 0 = .ok (.iload_n 1, 1) := by decide +kernel
theorem k104_0 {d : Nat} {x : Int32} {l0 l2 l3 l4 : Option PV} {st : List PV} {M : Mem} {Q : Option PV → Mem → Prop} : WP d 104 0 [l0, some (vi x), l2, l3, l4] (st) M Q = WP d 104 1 [l0, some (vi x), l2, l3, l4] (vi x :: st) M Q := w1 mC_104 d104_0 rfl rfl
theorem d104_1 : decode cX11_judge 1 = .ok (.invokestatic 75, 3) := by decide +kernel
theorem k104_1 {d : Nat} {l0 l1 l2 l3 l4 : Option PV} {st : List PV} {M : Mem} {Q : Option PV → Mem → Prop} {a0 : Int32} (hl : szL st ≤ 8) : WP (d + 1) 104 1 [l0, l1, l2, l3, l4] (vi a0 :: st) M Q = WP d 142 0 [some (vi a0)] [] M (fun v M' => WP (d + 1) 104 4 [l0, l1, l2, l3, l4] (psh v st) M' Q) := w_callS mC_104 d104_1 rfl rfl (Nat.le_of_ble_eq_true rfl) (by decide) rfl hl
theorem d104_4 : decode cX11_judge 4 = .ok (.ifCond .eq 14, 3) := by decide +kernel
theorem k104_4 {d : Nat} {l0 l1 l2 l3 l4 : Option PV} {st : List PV} {M : Mem} {Q : Option PV → Mem → Prop} {x : Int32} : WP d 104 4 [l0, l1, l2, l3, l4] (vi x :: st) M Q = (if x = 0 then WP d 104 18 [l0, l1, l2, l3, l4] (st) M Q else WP d 104 7 [l0, l1, l2, l3, l4] (st) M Q) := w_if_eq mC_104 d104_4 (by decide)
theorem d104_7 : decode cX11_judge 7 = .ok (.aload_n 0, 1) := by decide +kernel
theorem k104_7 {d x : Nat} {l1 l2 l3 l4 : Option PV} {st : List PV} {M : Mem} {Q : Option PV → Mem → Prop} : WP d 104 7 [some (vr x), l1, l2, l3, l4] (st) M Q = WP d 104 8 [some (vr x), l1, l2, l3, l4] (vr x :: st) M Q := w1 mC_104 d104_7 rfl rfl
theorem d104_8 : decode cX11_judge 8 = .ok (.getfield 10, 3) := by decide +kernel
theorem k104_8 {d : Nat} {l0 l1 l2 l3 l4 : Option PV} {st : List PV} {M : Mem} {Q : Option PV → Mem → Prop} {r : Nat} (hk : mK M r = 11) : WP d 104 8 [l0, l1, l2, l3, l4] (vr r :: st) M Q = WP d 104 11 [l0, l1, l2, l3, l4] (vr (mR M r 0) :: st) M Q := w_getr mC_104 d104_8 fE_11_10 rfl (by rw [hk]; rfl)
theorem d104_11 : decode cX11_judge 11 = .ok (.iload_n 2, 1) := by decide +kernel
theorem k104_11 {d : Nat} {x : Int32} {l0 l1 l3 l4 : Option PV} {st : List PV} {M : Mem} {Q : Option PV → Mem → Prop} : WP d 104 11 [l0, l1, some (vi x), l3, l4] (st) M Q = WP d 104 12 [l0, l1, some (vi x), l3, l4] (vi x :: st) M Q := w1 mC_104 d104_11 rfl rfl
theorem d104_12 : decode cX11_judge 12 = .ok (.invokevirtual 128, 3) := by decide +kernel
theorem k104_12 {d : Nat} {l0 l1 l2 l3 l4 : Option PV} {st : List PV} {M : Mem} {Q : Option PV → Mem → Prop} {a0 : Int32} {r : Nat} (hl : szL st ≤ 8) (hk : mK M r = 4) : WP (d + 1) 104 12 [l0, l1, l2, l3, l4] (vi a0 :: vr r :: st) M Q = WP d 25 0 [some (vr r), some (vi a0)] [] M (fun v M' => WP (d + 1) 104 15 [l0, l1, l2, l3, l4] (psh v st) M' Q) := w_callV mC_104 d104_12 (ci := 4) rfl rfl rfl (Nat.le_of_ble_eq_true rfl) (by decide) rfl hl (Or.inl hk)
theorem d104_15 : decode cX11_judge 15 = .ok (.ifCond .ne 5, 3) := by decide +kernel
theorem k104_15 {d : Nat} {l0 l1 l2 l3 l4 : Option PV} {st : List PV} {M : Mem} {Q : Option PV → Mem → Prop} {x : Int32} : WP d 104 15 [l0, l1, l2, l3, l4] (vi x :: st) M Q = (if x = 0 then WP d 104 18 [l0, l1, l2, l3, l4] (st) M Q else WP d 104 20 [l0, l1, l2, l3, l4] (st) M Q) := w_if_ne mC_104 d104_15 (by decide)
theorem d104_18 : decode cX11_judge 18 = .ok (.iconst (-1), 1) := by decide +kernel
theorem k104_18 {d : Nat} {l0 l1 l2 l3 l4 : Option PV} {st : List PV} {M : Mem} {Q : Option PV → Mem → Prop} : WP d 104 18 [l0, l1, l2, l3, l4] (st) M Q = WP d 104 19 [l0, l1, l2, l3, l4] (vi (-1) :: st) M Q := w_iconst mC_104 d104_18 (by decide)
theorem d104_19 : decode cX11_judge 19 = .ok (.ireturn, 1) := by decide +kernel
theorem k104_19 {d : Nat} {l0 l1 l2 l3 l4 : Option PV} {M : Mem} {Q : Option PV → Mem → Prop} {x : Int32} : WP d 104 19 [l0, l1, l2, l3, l4] ([vi x]) M Q = Q (some (vi x)) M := w_iret mC_104 d104_19 rfl
theorem d104_20 : decode cX11_judge 20 = .ok (.aload_n 0, 1) := by decide +kernel
theorem k104_20 {d x : Nat} {l1 l2 l3 l4 : Option PV} {st : List PV} {M : Mem} {Q : Option PV → Mem → Prop} : WP d 104 20 [some (vr x), l1, l2, l3, l4] (st) M Q = WP d 104 21 [some (vr x), l1, l2, l3, l4] (vr x :: st) M Q := w1 mC_104 d104_20 rfl rfl
theorem d104_21 : decode cX11_judge 21 = .ok (.getfield 58, 3) := by decide +kernel
theorem k104_21 {d : Nat} {l0 l1 l2 l3 l4 : Option PV} {st : List PV} {M : Mem} {Q : Option PV → Mem → Prop} {r : Nat} (hk : mK M r = 11) : WP d 104 21 [l0, l1, l2, l3, l4] (vr r :: st) M Q = WP d 104 24 [l0, l1, l2, l3, l4] (vr (mR M r 16) :: st) M Q := w_getr mC_104 d104_21 fE_11_58 rfl (by rw [hk]; rfl)
theorem d104_24 : decode cX11_judge 24 = .ok (.iload_n 1, 1) := by decide +kernel
theorem k104_24 {d : Nat} {x : Int32} {l0 l2 l3 l4 : Option PV} {st : List PV} {M : Mem} {Q : Option PV → Mem → Prop} : WP d 104 24 [l0, some (vi x), l2, l3, l4] (st) M Q = WP d 104 25 [l0, some (vi x), l2, l3, l4] (vi x :: st) M Q := w1 mC_104 d104_24 rfl rfl
theorem d104_25 : decode cX11_judge 25 = .ok (.aaload, 1) := by decide +kernel
theorem k104_25 {d : Nat} {l0 l1 l2 l3 l4 : Option PV} {st : List PV} {M : Mem} {Q : Option PV → Mem → Prop} {r : Nat} {j : Int32} (hk : mK M r = 15 ∨ mK M r = 16 ∨ mK M r = 17) (hj : inb j (mN M r)) (h1 : r ≠ 1) : WP d 104 25 [l0, l1, l2, l3, l4] (vi j :: vr r :: st) M Q = WP d 104 26 [l0, l1, l2, l3, l4] (vr (mR M r (ix j)) :: st) M Q := w_aald mC_104 d104_25 hk hj h1
theorem d104_26 : decode cX11_judge 26 = .ok (.astore_n 3, 1) := by decide +kernel
theorem k104_26 {d : Nat} {l0 l1 l2 l3 l4 : Option PV} {st : List PV} {M : Mem} {Q : Option PV → Mem → Prop} {x : Nat} : WP d 104 26 [l0, l1, l2, l3, l4] (vr x :: st) M Q = WP d 104 27 [l0, l1, l2, some (vr x), l4] (st) M Q := w1 mC_104 d104_26 rfl rfl
theorem d104_27 : decode cX11_judge 27 = .ok (.aload_n 3, 1) := by decide +kernel
theorem k104_27 {d x : Nat} {l0 l1 l2 l4 : Option PV} {st : List PV} {M : Mem} {Q : Option PV → Mem → Prop} : WP d 104 27 [l0, l1, l2, some (vr x), l4] (st) M Q = WP d 104 28 [l0, l1, l2, some (vr x), l4] (vr x :: st) M Q := w1 mC_104 d104_27 rfl rfl
theorem d104_28 : decode cX11_judge 28 = .ok (.invokestatic 246, 3) := by decide +kernel
theorem k104_28 {d : Nat} {l0 l1 l2 l3 l4 : Option PV} {st : List PV} {M : Mem} {Q : Option PV → Mem → Prop} {a0 : Nat} (hl : szL st ≤ 8) : WP (d + 1) 104 28 [l0, l1, l2, l3, l4] (vr a0 :: st) M Q = WP d 105 0 [some (vr a0)] [] M (fun v M' => WP (d + 1) 104 31 [l0, l1, l2, l3, l4] (psh v st) M' Q) := w_callS mC_104 d104_28 rfl rfl (Nat.le_of_ble_eq_true rfl) (by decide) rfl hl
theorem d104_31 : decode cX11_judge 31 = .ok (.istore 4, 2) := by decide +kernel
theorem k104_31 {d : Nat} {l0 l1 l2 l3 l4 : Option PV} {st : List PV} {M : Mem} {Q : Option PV → Mem → Prop} {x : Int32} : WP d 104 31 [l0, l1, l2, l3, l4] (vi x :: st) M Q = WP d 104 33 [l0, l1, l2, l3, some (vi x)] (st) M Q := w1 mC_104 d104_31 rfl rfl
theorem d104_33 : decode cX11_judge 33 = .ok (.iload 4, 2) := by decide +kernel
theorem k104_33 {d : Nat} {x : Int32} {l0 l1 l2 l3 : Option PV} {st : List PV} {M : Mem} {Q : Option PV → Mem → Prop} : WP d 104 33 [l0, l1, l2, l3, some (vi x)] (st) M Q = WP d 104 35 [l0, l1, l2, l3, some (vi x)] (vi x :: st) M Q := w1 mC_104 d104_33 rfl rfl
theorem d104_35 : decode cX11_judge 35 = .ok (.ifCond .eq 6, 3) := by decide +kernel
theorem k104_35 {d : Nat} {l0 l1 l2 l3 l4 : Option PV} {st : List PV} {M : Mem} {Q : Option PV → Mem → Prop} {x : Int32} : WP d 104 35 [l0, l1, l2, l3, l4] (vi x :: st) M Q = (if x = 0 then WP d 104 41 [l0, l1, l2, l3, l4] (st) M Q else WP d 104 38 [l0, l1, l2, l3, l4] (st) M Q) := w_if_eq mC_104 d104_35 (by decide)
theorem d104_38 : decode cX11_judge 38 = .ok (.iload 4, 2) := by decide +kernel
theorem k104_38 {d : Nat} {x : Int32} {l0 l1 l2 l3 : Option PV} {st : List PV} {M : Mem} {Q : Option PV → Mem → Prop} : WP d 104 38 [l0, l1, l2, l3, some (vi x)] (st) M Q = WP d 104 40 [l0, l1, l2, l3, some (vi x)] (vi x :: st) M Q := w1 mC_104 d104_38 rfl rfl
theorem d104_40 : decode cX11_judge 40 = .ok (.ireturn, 1) := by decide +kernel
theorem k104_40 {d : Nat} {l0 l1 l2 l3 l4 : Option PV} {M : Mem} {Q : Option PV → Mem → Prop} {x : Int32} : WP d 104 40 [l0, l1, l2, l3, l4] ([vi x]) M Q = Q (some (vi x)) M := w_iret mC_104 d104_40 rfl
theorem d104_41 : decode cX11_judge 41 = .ok (.aload_n 0, 1) := by decide +kernel
theorem k104_41 {d x : Nat} {l1 l2 l3 l4 : Option PV} {st : List PV} {M : Mem} {Q : Option PV → Mem → Prop} : WP d 104 41 [some (vr x), l1, l2, l3, l4] (st) M Q = WP d 104 42 [some (vr x), l1, l2, l3, l4] (vr x :: st) M Q := w1 mC_104 d104_41 rfl rfl
theorem d104_42 : decode cX11_judge 42 = .ok (.getfield 16, 3) := by decide +kernel
theorem k104_42 {d : Nat} {l0 l1 l2 l3 l4 : Option PV} {st : List PV} {M : Mem} {Q : Option PV → Mem → Prop} {r : Nat} (hk : mK M r = 11) : WP d 104 42 [l0, l1, l2, l3, l4] (vr r :: st) M Q = WP d 104 45 [l0, l1, l2, l3, l4] (vr (mR M r 1) :: st) M Q := w_getr mC_104 d104_42 fE_11_16 rfl (by rw [hk]; rfl)
theorem d104_45 : decode cX11_judge 45 = .ok (.aload_n 0, 1) := by decide +kernel
theorem k104_45 {d x : Nat} {l1 l2 l3 l4 : Option PV} {st : List PV} {M : Mem} {Q : Option PV → Mem → Prop} : WP d 104 45 [some (vr x), l1, l2, l3, l4] (st) M Q = WP d 104 46 [some (vr x), l1, l2, l3, l4] (vr x :: st) M Q := w1 mC_104 d104_45 rfl rfl
theorem d104_46 : decode cX11_judge 46 = .ok (.getfield 10, 3) := by decide +kernel
theorem k104_46 {d : Nat} {l0 l1 l2 l3 l4 : Option PV} {st : List PV} {M : Mem} {Q : Option PV → Mem → Prop} {r : Nat} (hk : mK M r = 11) : WP d 104 46 [l0, l1, l2, l3, l4] (vr r :: st) M Q = WP d 104 49 [l0, l1, l2, l3, l4] (vr (mR M r 0) :: st) M Q := w_getr mC_104 d104_46 fE_11_10 rfl (by rw [hk]; rfl)
theorem d104_49 : decode cX11_judge 49 = .ok (.invokevirtual 151, 3) := by decide +kernel
theorem k104_49 {d : Nat} {l0 l1 l2 l3 l4 : Option PV} {st : List PV} {M : Mem} {Q : Option PV → Mem → Prop} {a0 : Nat} {r : Nat} (hl : szL st ≤ 8) (hk : mK M r = 4) : WP (d + 1) 104 49 [l0, l1, l2, l3, l4] (vr a0 :: vr r :: st) M Q = WP d 31 0 [some (vr r), some (vr a0)] [] M (fun v M' => WP (d + 1) 104 52 [l0, l1, l2, l3, l4] (psh v st) M' Q) := w_callV mC_104 d104_49 (ci := 4) rfl rfl rfl (Nat.le_of_ble_eq_true rfl) (by decide) rfl hl (Or.inl hk)
theorem d104_52 : decode cX11_judge 52 = .ok (.aload_n 0, 1) := by decide +kernel
theorem k104_52 {d x : Nat} {l1 l2 l3 l4 : Option PV} {st : List PV} {M : Mem} {Q : Option PV → Mem → Prop} : WP d 104 52 [some (vr x), l1, l2, l3, l4] (st) M Q = WP d 104 53 [some (vr x), l1, l2, l3, l4] (vr x :: st) M Q := w1 mC_104 d104_52 rfl rfl
theorem d104_53 : decode cX11_judge 53 = .ok (.aload_n 3, 1) := by decide +kernel
theorem k104_53 {d x : Nat} {l0 l1 l2 l4 : Option PV} {st : List PV} {M : Mem} {Q : Option PV → Mem → Prop} : WP d 104 53 [l0, l1, l2, some (vr x), l4] (st) M Q = WP d 104 54 [l0, l1, l2, some (vr x), l4] (vr x :: st) M Q := w1 mC_104 d104_53 rfl rfl
theorem d104_54 : decode cX11_judge 54 = .ok (.iload_n 2, 1) := by decide +kernel
theorem k104_54 {d : Nat} {x : Int32} {l0 l1 l3 l4 : Option PV} {st : List PV} {M : Mem} {Q : Option PV → Mem → Prop} : WP d 104 54 [l0, l1, some (vi x), l3, l4] (st) M Q = WP d 104 55 [l0, l1, some (vi x), l3, l4] (vi x :: st) M Q := w1 mC_104 d104_54 rfl rfl
theorem d104_55 : decode cX11_judge 55 = .ok (.invokevirtual 250, 3) := by decide +kernel
theorem k104_55 {d : Nat} {l0 l1 l2 l3 l4 : Option PV} {st : List PV} {M : Mem} {Q : Option PV → Mem → Prop} {a1 : Int32} {a0 : Nat} {r : Nat} (hl : szL st ≤ 8) (hk : mK M r = 11) : WP (d + 1) 104 55 [l0, l1, l2, l3, l4] (vi a1 :: vr a0 :: vr r :: st) M Q = WP d 106 0 [some (vr r), some (vr a0), some (vi a1), none, none, none, none] [] M (fun v M' => WP (d + 1) 104 58 [l0, l1, l2, l3, l4] (psh v st) M' Q) := w_callV mC_104 d104_55 (ci := 11) rfl rfl rfl (Nat.le_of_ble_eq_true rfl) (by decide) rfl hl (Or.inl hk)
theorem d104_58 : decode cX11_judge 58 = .ok (.ireturn, 1) := by decide +kernel
theorem k104_58 {d : Nat} {l0 l1 l2 l3 l4 : Option PV} {M : Mem} {Q : Option PV → Mem → Prop} {x : Int32} : WP d 104 58 [l0, l1, l2, l3, l4] ([vi x]) M Q = Q (some (vi x)) M := w_iret mC_104 d104_58 rfl
theorem d105_0 : decode cX11_bookRefusal 0 = .ok (.aload_n 0, 1) := by decide +kernel
theorem k105_0 {d x : Nat} {st : List PV} {M : Mem} {Q : Option PV → Mem → Prop} : WP d 105 0 [some (vr x)] (st) M Q = WP d 105 1 [some (vr x)] (vr x :: st) M Q := w1 mC_105 d105_0 rfl rfl
theorem d105_1 : decode cX11_bookRefusal 1 = .ok (.invokevirtual 83, 3) := by decide +kernel
theorem k105_1 {d : Nat} {l0 : Option PV} {st : List PV} {M : Mem} {Q : Option PV → Mem → Prop} {r : Nat} (hl : szL st ≤ 8) (hk : mK M r = 9) : WP (d + 1) 105 1 [l0] (vr r :: st) M Q = WP d 59 0 [some (vr r)] [] M (fun v M' => WP (d + 1) 105 4 [l0] (psh v st) M' Q) := w_callV mC_105 d105_1 (ci := 9) rfl rfl rfl (Nat.le_of_ble_eq_true rfl) (by decide) rfl hl (Or.inl hk)
theorem d105_4 : decode cX11_bookRefusal 4 = .ok (.ifCond .eq 6, 3) := by decide +kernel
theorem k105_4 {d : Nat} {l0 : Option PV} {st : List PV} {M : Mem} {Q : Option PV → Mem → Prop} {x : Int32} : WP d 105 4 [l0] (vi x :: st) M Q = (if x = 0 then WP d 105 10 [l0] (st) M Q else WP d 105 7 [l0] (st) M Q) := w_if_eq mC_105 d105_4 (by decide)
theorem d105_7 : decode cX11_bookRefusal 7 = .ok (.bipush (-11), 2) := by decide +kernel
theorem k105_7 {d : Nat} {l0 : Option PV} {st : List PV} {M : Mem} {Q : Option PV → Mem → Prop} : WP d 105 7 [l0] (st) M Q = WP d 105 9 [l0] (vi (-11) :: st) M Q := w_bipush mC_105 d105_7 (by decide)
theorem d105_9 : decode cX11_bookRefusal 9 = .ok (.ireturn, 1) := by decide +kernel
theorem k105_9 {d : Nat} {l0 : Option PV} {M : Mem} {Q : Option PV → Mem → Prop} {x : Int32} : WP d 105 9 [l0] ([vi x]) M Q = Q (some (vi x)) M := w_iret mC_105 d105_9 rfl
theorem d105_10 : decode cX11_bookRefusal 10 = .ok (.aload_n 0, 1) := by decide +kernel
theorem k105_10 {d x : Nat} {st : List PV} {M : Mem} {Q : Option PV → Mem → Prop} : WP d 105 10 [some (vr x)] (st) M Q = WP d 105 11 [some (vr x)] (vr x :: st) M Q := w1 mC_105 d105_10 rfl rfl
theorem d105_11 : decode cX11_bookRefusal 11 = .ok (.invokevirtual 87, 3) := by decide +kernel
theorem k105_11 {d : Nat} {l0 : Option PV} {st : List PV} {M : Mem} {Q : Option PV → Mem → Prop} {r : Nat} (hl : szL st ≤ 8) (hk : mK M r = 9) : WP (d + 1) 105 11 [l0] (vr r :: st) M Q = WP d 61 0 [some (vr r)] [] M (fun v M' => WP (d + 1) 105 14 [l0] (psh v st) M' Q) := w_callV mC_105 d105_11 (ci := 9) rfl rfl rfl (Nat.le_of_ble_eq_true rfl) (by decide) rfl hl (Or.inl hk)
theorem d105_14 : decode cX11_bookRefusal 14 = .ok (.ifCond .eq 7, 3) := by decide +kernel
theorem k105_14 {d : Nat} {l0 : Option PV} {st : List PV} {M : Mem} {Q : Option PV → Mem → Prop} {x : Int32} : WP d 105 14 [l0] (vi x :: st) M Q = (if x = 0 then WP d 105 21 [l0] (st) M Q else WP d 105 17 [l0] (st) M Q) := w_if_eq mC_105 d105_14 (by decide)
theorem d105_17 : decode cX11_bookRefusal 17 = .ok (.iconst 0, 1) := by decide +kernel
theorem k105_17 {d : Nat} {l0 : Option PV} {st : List PV} {M : Mem} {Q : Option PV → Mem → Prop} : WP d 105 17 [l0] (st) M Q = WP d 105 18 [l0] (vi 0 :: st) M Q := w_iconst mC_105 d105_17 (by decide)
theorem d105_18 : decode cX11_bookRefusal 18 = .ok (.goto 5, 3) := by decide +kernel
theorem k105_18 {d : Nat} {l0 : Option PV} {st : List PV} {M : Mem} {Q : Option PV → Mem → Prop} : WP d 105 18 [l0] (st) M Q = WP d 105 23 [l0] (st) M Q := w_goto mC_105 d105_18 (by decide)
theorem d105_21 : decode cX11_bookRefusal 21 = .ok (.bipush (-12), 2) := by decide +kernel
theorem k105_21 {d : Nat} {l0 : Option PV} {st : List PV} {M : Mem} {Q : Option PV → Mem → Prop} : WP d 105 21 [l0] (st) M Q = WP d 105 23 [l0] (vi (-12) :: st) M Q := w_bipush mC_105 d105_21 (by decide)
theorem d105_23 : decode cX11_bookRefusal 23 = .ok (.ireturn, 1) := by decide +kernel
theorem k105_23 {d : Nat} {l0 : Option PV} {M : Mem} {Q : Option PV → Mem → Prop} {x : Int32} : WP d 105 23 [l0] ([vi x]) M Q = Q (some (vi x)) M := w_iret mC_105 d105_23 rfl
theorem d106_0 : decode cX11_firstNotSo 0 = .ok (.aload_n 1, 1) := by decide +kernel
theorem k106_0 {d x : Nat} {l0 l2 l3 l4 l5 l6 : Option PV} {st : List PV} {M : Mem} {Q : Option PV → Mem → Prop} : WP d 106 0 [l0, some (vr x), l2, l3, l4, l5, l6] (st) M Q = WP d 106 1 [l0, some (vr x), l2, l3, l4, l5, l6] (vr x :: st) M Q := w1 mC_106 d106_0 rfl rfl
theorem d106_1 : decode cX11_firstNotSo 1 = .ok (.getfield 254, 3) := by decide +kernel
theorem k106_1 {d : Nat} {l0 l1 l2 l3 l4 l5 l6 : Option PV} {st : List PV} {M : Mem} {Q : Option PV → Mem → Prop} {r : Nat} (hk : mK M r = 9) : WP d 106 1 [l0, l1, l2, l3, l4, l5, l6] (vr r :: st) M Q = WP d 106 4 [l0, l1, l2, l3, l4, l5, l6] (vi (mI M r 3) :: st) M Q := w_get mC_106 d106_1 fE_11_254 rfl (by rw [hk]; rfl)
theorem d106_4 : decode cX11_firstNotSo 4 = .ok (.bipush 41, 2) := by decide +kernel
theorem k106_4 {d : Nat} {l0 l1 l2 l3 l4 l5 l6 : Option PV} {st : List PV} {M : Mem} {Q : Option PV → Mem → Prop} : WP d 106 4 [l0, l1, l2, l3, l4, l5, l6] (st) M Q = WP d 106 6 [l0, l1, l2, l3, l4, l5, l6] (vi 41 :: st) M Q := w_bipush mC_106 d106_4 (by decide)
theorem d106_6 : decode cX11_firstNotSo 6 = .ok (.invokestatic 257, 3) := by decide +kernel
theorem k106_6 {d : Nat} {l0 l1 l2 l3 l4 l5 l6 : Option PV} {st : List PV} {M : Mem} {Q : Option PV → Mem → Prop} {x y : Int32} (hl : szL st ≤ 8) : WP d 106 6 [l0, l1, l2, l3, l4, l5, l6] (vi y :: vi x :: st) M Q = WP d 106 9 [l0, l1, l2, l3, l4, l5, l6] (vi (if y < x then y else x) :: st) M Q := w_min mC_106 d106_6 rfl rfl rfl hl
theorem d106_9 : decode cX11_firstNotSo 9 = .ok (.istore_n 3, 1) := by decide +kernel
theorem k106_9 {d : Nat} {l0 l1 l2 l3 l4 l5 l6 : Option PV} {st : List PV} {M : Mem} {Q : Option PV → Mem → Prop} {x : Int32} : WP d 106 9 [l0, l1, l2, l3, l4, l5, l6] (vi x :: st) M Q = WP d 106 10 [l0, l1, l2, some (vi x), l4, l5, l6] (st) M Q := w1 mC_106 d106_9 rfl rfl
theorem d106_10 : decode cX11_firstNotSo 10 = .ok (.iconst 0, 1) := by decide +kernel
theorem k106_10 {d : Nat} {l0 l1 l2 l3 l4 l5 l6 : Option PV} {st : List PV} {M : Mem} {Q : Option PV → Mem → Prop} : WP d 106 10 [l0, l1, l2, l3, l4, l5, l6] (st) M Q = WP d 106 11 [l0, l1, l2, l3, l4, l5, l6] (vi 0 :: st) M Q := w_iconst mC_106 d106_10 (by decide)
theorem d106_11 : decode cX11_firstNotSo 11 = .ok (.istore 4, 2) := by decide +kernel
theorem k106_11 {d : Nat} {l0 l1 l2 l3 l4 l5 l6 : Option PV} {st : List PV} {M : Mem} {Q : Option PV → Mem → Prop} {x : Int32} : WP d 106 11 [l0, l1, l2, l3, l4, l5, l6] (vi x :: st) M Q = WP d 106 13 [l0, l1, l2, l3, some (vi x), l5, l6] (st) M Q := w1 mC_106 d106_11 rfl rfl
theorem d106_13 : decode cX11_firstNotSo 13 = .ok (.iload 4, 2) := by decide +kernel
theorem k106_13 {d : Nat} {x : Int32} {l0 l1 l2 l3 l5 l6 : Option PV} {st : List PV} {M : Mem} {Q : Option PV → Mem → Prop} : WP d 106 13 [l0, l1, l2, l3, some (vi x), l5, l6] (st) M Q = WP d 106 15 [l0, l1, l2, l3, some (vi x), l5, l6] (vi x :: st) M Q := w1 mC_106 d106_13 rfl rfl
theorem d106_15 : decode cX11_firstNotSo 15 = .ok (.iload_n 3, 1) := by decide +kernel
theorem k106_15 {d : Nat} {x : Int32} {l0 l1 l2 l4 l5 l6 : Option PV} {st : List PV} {M : Mem} {Q : Option PV → Mem → Prop} : WP d 106 15 [l0, l1, l2, some (vi x), l4, l5, l6] (st) M Q = WP d 106 16 [l0, l1, l2, some (vi x), l4, l5, l6] (vi x :: st) M Q := w1 mC_106 d106_15 rfl rfl
theorem d106_16 : decode cX11_firstNotSo 16 = .ok (.if_icmp .ge 65, 3) := by decide +kernel
theorem k106_16 {d : Nat} {l0 l1 l2 l3 l4 l5 l6 : Option PV} {st : List PV} {M : Mem} {Q : Option PV → Mem → Prop} {x y : Int32} : WP d 106 16 [l0, l1, l2, l3, l4, l5, l6] (vi y :: vi x :: st) M Q = (if y ≤ x then WP d 106 81 [l0, l1, l2, l3, l4, l5, l6] (st) M Q else WP d 106 19 [l0, l1, l2, l3, l4, l5, l6] (st) M Q) := w_ic_ge mC_106 d106_16 (by decide)
theorem d106_19 : decode cX11_firstNotSo 19 = .ok (.aload_n 1, 1) := by decide +kernel
theorem k106_19 {d x : Nat} {l0 l2 l3 l4 l5 l6 : Option PV} {st : List PV} {M : Mem} {Q : Option PV → Mem → Prop} : WP d 106 19 [l0, some (vr x), l2, l3, l4, l5, l6] (st) M Q = WP d 106 20 [l0, some (vr x), l2, l3, l4, l5, l6] (vr x :: st) M Q := w1 mC_106 d106_19 rfl rfl
theorem d106_20 : decode cX11_firstNotSo 20 = .ok (.iload 4, 2) := by decide +kernel
theorem k106_20 {d : Nat} {x : Int32} {l0 l1 l2 l3 l5 l6 : Option PV} {st : List PV} {M : Mem} {Q : Option PV → Mem → Prop} : WP d 106 20 [l0, l1, l2, l3, some (vi x), l5, l6] (st) M Q = WP d 106 22 [l0, l1, l2, l3, some (vi x), l5, l6] (vi x :: st) M Q := w1 mC_106 d106_20 rfl rfl
theorem d106_22 : decode cX11_firstNotSo 22 = .ok (.invokevirtual 97, 3) := by decide +kernel
theorem k106_22 {d : Nat} {l0 l1 l2 l3 l4 l5 l6 : Option PV} {st : List PV} {M : Mem} {Q : Option PV → Mem → Prop} {a0 : Int32} {r : Nat} (hl : szL st ≤ 8) (hk : mK M r = 9) : WP (d + 1) 106 22 [l0, l1, l2, l3, l4, l5, l6] (vi a0 :: vr r :: st) M Q = WP d 65 0 [some (vr r), some (vi a0)] [] M (fun v M' => WP (d + 1) 106 25 [l0, l1, l2, l3, l4, l5, l6] (psh v st) M' Q) := w_callV mC_106 d106_22 (ci := 9) rfl rfl rfl (Nat.le_of_ble_eq_true rfl) (by decide) rfl hl (Or.inl hk)
theorem d106_25 : decode cX11_firstNotSo 25 = .ok (.lstore 5, 2) := by decide +kernel
theorem k106_25 {d : Nat} {l0 l1 l2 l3 l4 l5 l6 : Option PV} {st : List PV} {M : Mem} {Q : Option PV → Mem → Prop} {x : Int64} : WP d 106 25 [l0, l1, l2, l3, l4, l5, l6] (vl x :: st) M Q = WP d 106 27 [l0, l1, l2, l3, l4, some (vl x), none] (st) M Q := w1 mC_106 d106_25 rfl rfl
theorem d106_27 : decode cX11_firstNotSo 27 = .ok (.lload 5, 2) := by decide +kernel
theorem k106_27 {d : Nat} {x : Int64} {l0 l1 l2 l3 l4 : Option PV} {st : List PV} {M : Mem} {Q : Option PV → Mem → Prop} : WP d 106 27 [l0, l1, l2, l3, l4, some (vl x), none] (st) M Q = WP d 106 29 [l0, l1, l2, l3, l4, some (vl x), none] (vl x :: st) M Q := w1 mC_106 d106_27 rfl rfl
theorem d106_29 : decode cX11_firstNotSo 29 = .ok (.ldc2_w 260, 3) := by decide +kernel
theorem k106_29 {d : Nat} {l0 l1 l2 l3 l4 l5 l6 : Option PV} {st : List PV} {M : Mem} {Q : Option PV → Mem → Prop} : WP d 106 29 [l0, l1, l2, l3, l4, l5, l6] (st) M Q = WP d 106 32 [l0, l1, l2, l3, l4, l5, l6] (vl 100 :: st) M Q := w_ldl mC_106 d106_29 rfl
theorem d106_32 : decode cX11_firstNotSo 32 = .ok (.lcmp, 1) := by decide +kernel
theorem k106_32 {d : Nat} {l0 l1 l2 l3 l4 l5 l6 : Option PV} {st : List PV} {M : Mem} {Q : Option PV → Mem → Prop} {x y : Int64} : WP d 106 32 [l0, l1, l2, l3, l4, l5, l6] (vl y :: vl x :: st) M Q = WP d 106 33 [l0, l1, l2, l3, l4, l5, l6] (vi (lg_cmp x y) :: st) M Q := w1 mC_106 d106_32 rfl rfl
theorem d106_33 : decode cX11_firstNotSo 33 = .ok (.ifCond .eq 22, 3) := by decide +kernel
theorem k106_33 {d : Nat} {l0 l1 l2 l3 l4 l5 l6 : Option PV} {st : List PV} {M : Mem} {Q : Option PV → Mem → Prop} {x : Int32} : WP d 106 33 [l0, l1, l2, l3, l4, l5, l6] (vi x :: st) M Q = (if x = 0 then WP d 106 55 [l0, l1, l2, l3, l4, l5, l6] (st) M Q else WP d 106 36 [l0, l1, l2, l3, l4, l5, l6] (st) M Q) := w_if_eq mC_106 d106_33 (by decide)
theorem d106_36 : decode cX11_firstNotSo 36 = .ok (.lload 5, 2) := by decide +kernel
theorem k106_36 {d : Nat} {x : Int64} {l0 l1 l2 l3 l4 : Option PV} {st : List PV} {M : Mem} {Q : Option PV → Mem → Prop} : WP d 106 36 [l0, l1, l2, l3, l4, some (vl x), none] (st) M Q = WP d 106 38 [l0, l1, l2, l3, l4, some (vl x), none] (vl x :: st) M Q := w1 mC_106 d106_36 rfl rfl
theorem d106_38 : decode cX11_firstNotSo 38 = .ok (.aload_n 0, 1) := by decide +kernel
theorem k106_38 {d x : Nat} {l1 l2 l3 l4 l5 l6 : Option PV} {st : List PV} {M : Mem} {Q : Option PV → Mem → Prop} : WP d 106 38 [some (vr x), l1, l2, l3, l4, l5, l6] (st) M Q = WP d 106 39 [some (vr x), l1, l2, l3, l4, l5, l6] (vr x :: st) M Q := w1 mC_106 d106_38 rfl rfl
theorem d106_39 : decode cX11_firstNotSo 39 = .ok (.getfield 16, 3) := by decide +kernel
theorem k106_39 {d : Nat} {l0 l1 l2 l3 l4 l5 l6 : Option PV} {st : List PV} {M : Mem} {Q : Option PV → Mem → Prop} {r : Nat} (hk : mK M r = 11) : WP d 106 39 [l0, l1, l2, l3, l4, l5, l6] (vr r :: st) M Q = WP d 106 42 [l0, l1, l2, l3, l4, l5, l6] (vr (mR M r 1) :: st) M Q := w_getr mC_106 d106_39 fE_11_16 rfl (by rw [hk]; rfl)
theorem d106_42 : decode cX11_firstNotSo 42 = .ok (.getfield 139, 3) := by decide +kernel
theorem k106_42 {d : Nat} {l0 l1 l2 l3 l4 l5 l6 : Option PV} {st : List PV} {M : Mem} {Q : Option PV → Mem → Prop} {r : Nat} (hk : mK M r = 4) : WP d 106 42 [l0, l1, l2, l3, l4, l5, l6] (vr r :: st) M Q = WP d 106 45 [l0, l1, l2, l3, l4, l5, l6] (vr (mR M r 5) :: st) M Q := w_getr mC_106 d106_42 fE_11_139 rfl (by rw [hk]; rfl)
theorem d106_45 : decode cX11_firstNotSo 45 = .ok (.iload_n 2, 1) := by decide +kernel
theorem k106_45 {d : Nat} {x : Int32} {l0 l1 l3 l4 l5 l6 : Option PV} {st : List PV} {M : Mem} {Q : Option PV → Mem → Prop} : WP d 106 45 [l0, l1, some (vi x), l3, l4, l5, l6] (st) M Q = WP d 106 46 [l0, l1, some (vi x), l3, l4, l5, l6] (vi x :: st) M Q := w1 mC_106 d106_45 rfl rfl
theorem d106_46 : decode cX11_firstNotSo 46 = .ok (.iaload, 1) := by decide +kernel
theorem k106_46 {d : Nat} {l0 l1 l2 l3 l4 l5 l6 : Option PV} {st : List PV} {M : Mem} {Q : Option PV → Mem → Prop} {r : Nat} {j : Int32} (hk : mK M r = 13) (hj : inb j (mN M r)) (_h1 : r ≠ 1) : WP d 106 46 [l0, l1, l2, l3, l4, l5, l6] (vi j :: vr r :: st) M Q = WP d 106 47 [l0, l1, l2, l3, l4, l5, l6] (vi (mI M r (ix j)) :: st) M Q := w_iald mC_106 d106_46 hk hj
theorem d106_47 : decode cX11_firstNotSo 47 = .ok (.i2l, 1) := by decide +kernel
theorem k106_47 {d : Nat} {l0 l1 l2 l3 l4 l5 l6 : Option PV} {st : List PV} {M : Mem} {Q : Option PV → Mem → Prop} {x : Int32} : WP d 106 47 [l0, l1, l2, l3, l4, l5, l6] (vi x :: st) M Q = WP d 106 48 [l0, l1, l2, l3, l4, l5, l6] (vl x.toInt64 :: st) M Q := w1 mC_106 d106_47 rfl rfl
theorem d106_48 : decode cX11_firstNotSo 48 = .ok (.lcmp, 1) := by decide +kernel
theorem k106_48 {d : Nat} {l0 l1 l2 l3 l4 l5 l6 : Option PV} {st : List PV} {M : Mem} {Q : Option PV → Mem → Prop} {x y : Int64} : WP d 106 48 [l0, l1, l2, l3, l4, l5, l6] (vl y :: vl x :: st) M Q = WP d 106 49 [l0, l1, l2, l3, l4, l5, l6] (vi (lg_cmp x y) :: st) M Q := w1 mC_106 d106_48 rfl rfl
theorem d106_49 : decode cX11_firstNotSo 49 = .ok (.ifCond .eq 6, 3) := by decide +kernel
theorem k106_49 {d : Nat} {l0 l1 l2 l3 l4 l5 l6 : Option PV} {st : List PV} {M : Mem} {Q : Option PV → Mem → Prop} {x : Int32} : WP d 106 49 [l0, l1, l2, l3, l4, l5, l6] (vi x :: st) M Q = (if x = 0 then WP d 106 55 [l0, l1, l2, l3, l4, l5, l6] (st) M Q else WP d 106 52 [l0, l1, l2, l3, l4, l5, l6] (st) M Q) := w_if_eq mC_106 d106_49 (by decide)
theorem d106_52 : decode cX11_firstNotSo 52 = .ok (.iload 4, 2) := by decide +kernel
theorem k106_52 {d : Nat} {x : Int32} {l0 l1 l2 l3 l5 l6 : Option PV} {st : List PV} {M : Mem} {Q : Option PV → Mem → Prop} : WP d 106 52 [l0, l1, l2, l3, some (vi x), l5, l6] (st) M Q = WP d 106 54 [l0, l1, l2, l3, some (vi x), l5, l6] (vi x :: st) M Q := w1 mC_106 d106_52 rfl rfl
theorem d106_54 : decode cX11_firstNotSo 54 = .ok (.ireturn, 1) := by decide +kernel
theorem k106_54 {d : Nat} {l0 l1 l2 l3 l4 l5 l6 : Option PV} {M : Mem} {Q : Option PV → Mem → Prop} {x : Int32} : WP d 106 54 [l0, l1, l2, l3, l4, l5, l6] ([vi x]) M Q = Q (some (vi x)) M := w_iret mC_106 d106_54 rfl
theorem d106_55 : decode cX11_firstNotSo 55 = .ok (.aload_n 0, 1) := by decide +kernel
theorem k106_55 {d x : Nat} {l1 l2 l3 l4 l5 l6 : Option PV} {st : List PV} {M : Mem} {Q : Option PV → Mem → Prop} : WP d 106 55 [some (vr x), l1, l2, l3, l4, l5, l6] (st) M Q = WP d 106 56 [some (vr x), l1, l2, l3, l4, l5, l6] (vr x :: st) M Q := w1 mC_106 d106_55 rfl rfl
theorem d106_56 : decode cX11_firstNotSo 56 = .ok (.getfield 16, 3) := by decide +kernel
theorem k106_56 {d : Nat} {l0 l1 l2 l3 l4 l5 l6 : Option PV} {st : List PV} {M : Mem} {Q : Option PV → Mem → Prop} {r : Nat} (hk : mK M r = 11) : WP d 106 56 [l0, l1, l2, l3, l4, l5, l6] (vr r :: st) M Q = WP d 106 59 [l0, l1, l2, l3, l4, l5, l6] (vr (mR M r 1) :: st) M Q := w_getr mC_106 d106_56 fE_11_16 rfl (by rw [hk]; rfl)
theorem d106_59 : decode cX11_firstNotSo 59 = .ok (.iload_n 2, 1) := by decide +kernel
theorem k106_59 {d : Nat} {x : Int32} {l0 l1 l3 l4 l5 l6 : Option PV} {st : List PV} {M : Mem} {Q : Option PV → Mem → Prop} : WP d 106 59 [l0, l1, some (vi x), l3, l4, l5, l6] (st) M Q = WP d 106 60 [l0, l1, some (vi x), l3, l4, l5, l6] (vi x :: st) M Q := w1 mC_106 d106_59 rfl rfl
theorem d106_60 : decode cX11_firstNotSo 60 = .ok (.aload_n 0, 1) := by decide +kernel
theorem k106_60 {d x : Nat} {l1 l2 l3 l4 l5 l6 : Option PV} {st : List PV} {M : Mem} {Q : Option PV → Mem → Prop} : WP d 106 60 [some (vr x), l1, l2, l3, l4, l5, l6] (st) M Q = WP d 106 61 [some (vr x), l1, l2, l3, l4, l5, l6] (vr x :: st) M Q := w1 mC_106 d106_60 rfl rfl
theorem d106_61 : decode cX11_firstNotSo 61 = .ok (.getfield 25, 3) := by decide +kernel
theorem k106_61 {d : Nat} {l0 l1 l2 l3 l4 l5 l6 : Option PV} {st : List PV} {M : Mem} {Q : Option PV → Mem → Prop} {r : Nat} (hk : mK M r = 11) : WP d 106 61 [l0, l1, l2, l3, l4, l5, l6] (vr r :: st) M Q = WP d 106 64 [l0, l1, l2, l3, l4, l5, l6] (vr (mR M r 4) :: st) M Q := w_getr mC_106 d106_61 fE_11_25 rfl (by rw [hk]; rfl)
theorem d106_64 : decode cX11_firstNotSo 64 = .ok (.invokevirtual 181, 3) := by decide +kernel
theorem k106_64 {d : Nat} {l0 l1 l2 l3 l4 l5 l6 : Option PV} {st : List PV} {M : Mem} {Q : Option PV → Mem → Prop} {a0 : Int32} {a1 : Nat} {r : Nat} (hl : szL st ≤ 8) (hk : mK M r = 4) : WP (d + 1) 106 64 [l0, l1, l2, l3, l4, l5, l6] (vr a1 :: vi a0 :: vr r :: st) M Q = WP d 41 0 [some (vr r), some (vi a0), some (vr a1), none, none, none] [] M (fun v M' => WP (d + 1) 106 67 [l0, l1, l2, l3, l4, l5, l6] (psh v st) M' Q) := w_callV mC_106 d106_64 (ci := 4) rfl rfl rfl (Nat.le_of_ble_eq_true rfl) (by decide) rfl hl (Or.inl hk)
theorem d106_67 : decode cX11_firstNotSo 67 = .ok (.pop, 1) := by decide +kernel
theorem k106_67 {d : Nat} {l0 l1 l2 l3 l4 l5 l6 : Option PV} {st : List PV} {M : Mem} {Q : Option PV → Mem → Prop} {x : Nat} : WP d 106 67 [l0, l1, l2, l3, l4, l5, l6] (vr x :: st) M Q = WP d 106 68 [l0, l1, l2, l3, l4, l5, l6] (st) M Q := w1 mC_106 d106_67 rfl rfl
theorem k106_67i {d : Nat} {l0 l1 l2 l3 l4 l5 l6 : Option PV} {st : List PV} {M : Mem} {Q : Option PV → Mem → Prop} {x : Int32} : WP d 106 67 [l0, l1, l2, l3, l4, l5, l6] (vi x :: st) M Q = WP d 106 68 [l0, l1, l2, l3, l4, l5, l6] (st) M Q := w1 mC_106 d106_67 rfl rfl
theorem d106_68 : decode cX11_firstNotSo 68 = .ok (.aload_n 0, 1) := by decide +kernel
theorem k106_68 {d x : Nat} {l1 l2 l3 l4 l5 l6 : Option PV} {st : List PV} {M : Mem} {Q : Option PV → Mem → Prop} : WP d 106 68 [some (vr x), l1, l2, l3, l4, l5, l6] (st) M Q = WP d 106 69 [some (vr x), l1, l2, l3, l4, l5, l6] (vr x :: st) M Q := w1 mC_106 d106_68 rfl rfl
theorem d106_69 : decode cX11_firstNotSo 69 = .ok (.getfield 16, 3) := by decide +kernel
theorem k106_69 {d : Nat} {l0 l1 l2 l3 l4 l5 l6 : Option PV} {st : List PV} {M : Mem} {Q : Option PV → Mem → Prop} {r : Nat} (hk : mK M r = 11) : WP d 106 69 [l0, l1, l2, l3, l4, l5, l6] (vr r :: st) M Q = WP d 106 72 [l0, l1, l2, l3, l4, l5, l6] (vr (mR M r 1) :: st) M Q := w_getr mC_106 d106_69 fE_11_16 rfl (by rw [hk]; rfl)
theorem d106_72 : decode cX11_firstNotSo 72 = .ok (.invokevirtual 184, 3) := by decide +kernel
theorem k106_72 {d : Nat} {l0 l1 l2 l3 l4 l5 l6 : Option PV} {st : List PV} {M : Mem} {Q : Option PV → Mem → Prop} {r : Nat} (hl : szL st ≤ 8) (hk : mK M r = 4) : WP (d + 1) 106 72 [l0, l1, l2, l3, l4, l5, l6] (vr r :: st) M Q = WP d 43 0 [some (vr r)] [] M (fun v M' => WP (d + 1) 106 75 [l0, l1, l2, l3, l4, l5, l6] (psh v st) M' Q) := w_callV mC_106 d106_72 (ci := 4) rfl rfl rfl (Nat.le_of_ble_eq_true rfl) (by decide) rfl hl (Or.inl hk)
theorem d106_75 : decode cX11_firstNotSo 75 = .ok (.iinc 4 1, 3) := by decide +kernel
theorem k106_75 {d : Nat} {x : Int32} {l0 l1 l2 l3 l5 l6 : Option PV} {st : List PV} {M : Mem} {Q : Option PV → Mem → Prop} : WP d 106 75 [l0, l1, l2, l3, some (vi x), l5, l6] (st) M Q = WP d 106 78 [l0, l1, l2, l3, some (vi (x + 1)), l5, l6] (st) M Q := w_iinc mC_106 d106_75 rfl (by decide) rfl
theorem d106_78 : decode cX11_firstNotSo 78 = .ok (.goto (-65), 3) := by decide +kernel
theorem k106_78 {d : Nat} {l0 l1 l2 l3 l4 l5 l6 : Option PV} {st : List PV} {M : Mem} {Q : Option PV → Mem → Prop} : WP d 106 78 [l0, l1, l2, l3, l4, l5, l6] (st) M Q = WP d 106 13 [l0, l1, l2, l3, l4, l5, l6] (st) M Q := w_goto mC_106 d106_78 (by decide)
theorem d106_81 : decode cX11_firstNotSo 81 = .ok (.bipush (-2), 2) := by decide +kernel
theorem k106_81 {d : Nat} {l0 l1 l2 l3 l4 l5 l6 : Option PV} {st : List PV} {M : Mem} {Q : Option PV → Mem → Prop} : WP d 106 81 [l0, l1, l2, l3, l4, l5, l6] (st) M Q = WP d 106 83 [l0, l1, l2, l3, l4, l5, l6] (vi (-2) :: st) M Q := w_bipush mC_106 d106_81 (by decide)
theorem d106_83 : decode cX11_firstNotSo 83 = .ok (.ireturn, 1) := by decide +kernel
theorem k106_83 {d : Nat} {l0 l1 l2 l3 l4 l5 l6 : Option PV} {M : Mem} {Q : Option PV → Mem → Prop} {x : Int32} : WP d 106 83 [l0, l1, l2, l3, l4, l5, l6] ([vi x]) M Q = Q (some (vi x)) M := w_iret mC_106 d106_83 rfl
theorem d107_0 : decode cX11_fits 0 = .ok (.iload_n 1, 1) := by decide +kernel
theorem k107_0 {d : Nat} {x : Int32} {l0 l2 l3 l4 l5 : Option PV} {st : List PV} {M : Mem} {Q : Option PV → Mem → Prop} : WP d 107 0 [l0, some (vi x), l2, l3, l4, l5] (st) M Q = WP d 107 1 [l0, some (vi x), l2, l3, l4, l5] (vi x :: st) M Q := w1 mC_107 d107_0 rfl rfl
theorem d107_1 : decode cX11_fits 1 = .ok (.invokestatic 75, 3) := by decide +kernel
theorem k107_1 {d : Nat} {l0 l1 l2 l3 l4 l5 : Option PV} {st : List PV} {M : Mem} {Q : Option PV → Mem → Prop} {a0 : Int32} (hl : szL st ≤ 8) : WP (d + 1) 107 1 [l0, l1, l2, l3, l4, l5] (vi a0 :: st) M Q = WP d 142 0 [some (vi a0)] [] M (fun v M' => WP (d + 1) 107 4 [l0, l1, l2, l3, l4, l5] (psh v st) M' Q) := w_callS mC_107 d107_1 rfl rfl (Nat.le_of_ble_eq_true rfl) (by decide) rfl hl
theorem d107_4 : decode cX11_fits 4 = .ok (.ifCond .eq 23, 3) := by decide +kernel
theorem k107_4 {d : Nat} {l0 l1 l2 l3 l4 l5 : Option PV} {st : List PV} {M : Mem} {Q : Option PV → Mem → Prop} {x : Int32} : WP d 107 4 [l0, l1, l2, l3, l4, l5] (vi x :: st) M Q = (if x = 0 then WP d 107 27 [l0, l1, l2, l3, l4, l5] (st) M Q else WP d 107 7 [l0, l1, l2, l3, l4, l5] (st) M Q) := w_if_eq mC_107 d107_4 (by decide)
theorem d107_7 : decode cX11_fits 7 = .ok (.aload_n 0, 1) := by decide +kernel
theorem k107_7 {d x : Nat} {l1 l2 l3 l4 l5 : Option PV} {st : List PV} {M : Mem} {Q : Option PV → Mem → Prop} : WP d 107 7 [some (vr x), l1, l2, l3, l4, l5] (st) M Q = WP d 107 8 [some (vr x), l1, l2, l3, l4, l5] (vr x :: st) M Q := w1 mC_107 d107_7 rfl rfl
theorem d107_8 : decode cX11_fits 8 = .ok (.getfield 10, 3) := by decide +kernel
theorem k107_8 {d : Nat} {l0 l1 l2 l3 l4 l5 : Option PV} {st : List PV} {M : Mem} {Q : Option PV → Mem → Prop} {r : Nat} (hk : mK M r = 11) : WP d 107 8 [l0, l1, l2, l3, l4, l5] (vr r :: st) M Q = WP d 107 11 [l0, l1, l2, l3, l4, l5] (vr (mR M r 0) :: st) M Q := w_getr mC_107 d107_8 fE_11_10 rfl (by rw [hk]; rfl)
theorem d107_11 : decode cX11_fits 11 = .ok (.iload_n 2, 1) := by decide +kernel
theorem k107_11 {d : Nat} {x : Int32} {l0 l1 l3 l4 l5 : Option PV} {st : List PV} {M : Mem} {Q : Option PV → Mem → Prop} : WP d 107 11 [l0, l1, some (vi x), l3, l4, l5] (st) M Q = WP d 107 12 [l0, l1, some (vi x), l3, l4, l5] (vi x :: st) M Q := w1 mC_107 d107_11 rfl rfl
theorem d107_12 : decode cX11_fits 12 = .ok (.invokevirtual 128, 3) := by decide +kernel
theorem k107_12 {d : Nat} {l0 l1 l2 l3 l4 l5 : Option PV} {st : List PV} {M : Mem} {Q : Option PV → Mem → Prop} {a0 : Int32} {r : Nat} (hl : szL st ≤ 8) (hk : mK M r = 4) : WP (d + 1) 107 12 [l0, l1, l2, l3, l4, l5] (vi a0 :: vr r :: st) M Q = WP d 25 0 [some (vr r), some (vi a0)] [] M (fun v M' => WP (d + 1) 107 15 [l0, l1, l2, l3, l4, l5] (psh v st) M' Q) := w_callV mC_107 d107_12 (ci := 4) rfl rfl rfl (Nat.le_of_ble_eq_true rfl) (by decide) rfl hl (Or.inl hk)
theorem d107_15 : decode cX11_fits 15 = .ok (.ifCond .eq 12, 3) := by decide +kernel
theorem k107_15 {d : Nat} {l0 l1 l2 l3 l4 l5 : Option PV} {st : List PV} {M : Mem} {Q : Option PV → Mem → Prop} {x : Int32} : WP d 107 15 [l0, l1, l2, l3, l4, l5] (vi x :: st) M Q = (if x = 0 then WP d 107 27 [l0, l1, l2, l3, l4, l5] (st) M Q else WP d 107 18 [l0, l1, l2, l3, l4, l5] (st) M Q) := w_if_eq mC_107 d107_15 (by decide)
theorem d107_18 : decode cX11_fits 18 = .ok (.iload_n 3, 1) := by decide +kernel
theorem k107_18 {d : Nat} {x : Int32} {l0 l1 l2 l4 l5 : Option PV} {st : List PV} {M : Mem} {Q : Option PV → Mem → Prop} : WP d 107 18 [l0, l1, l2, some (vi x), l4, l5] (st) M Q = WP d 107 19 [l0, l1, l2, some (vi x), l4, l5] (vi x :: st) M Q := w1 mC_107 d107_18 rfl rfl
theorem d107_19 : decode cX11_fits 19 = .ok (.iconst 0, 1) := by decide +kernel
theorem k107_19 {d : Nat} {l0 l1 l2 l3 l4 l5 : Option PV} {st : List PV} {M : Mem} {Q : Option PV → Mem → Prop} : WP d 107 19 [l0, l1, l2, l3, l4, l5] (st) M Q = WP d 107 20 [l0, l1, l2, l3, l4, l5] (vi 0 :: st) M Q := w_iconst mC_107 d107_19 (by decide)
theorem d107_20 : decode cX11_fits 20 = .ok (.iconst 1, 1) := by decide +kernel
theorem k107_20 {d : Nat} {l0 l1 l2 l3 l4 l5 : Option PV} {st : List PV} {M : Mem} {Q : Option PV → Mem → Prop} : WP d 107 20 [l0, l1, l2, l3, l4, l5] (st) M Q = WP d 107 21 [l0, l1, l2, l3, l4, l5] (vi 1 :: st) M Q := w_iconst mC_107 d107_20 (by decide)
theorem d107_21 : decode cX11_fits 21 = .ok (.invokestatic 79, 3) := by decide +kernel
theorem k107_21 {d : Nat} {l0 l1 l2 l3 l4 l5 : Option PV} {st : List PV} {M : Mem} {Q : Option PV → Mem → Prop} {a0 a1 a2 : Int32} (hl : szL st ≤ 8) : WP (d + 1) 107 21 [l0, l1, l2, l3, l4, l5] (vi a2 :: vi a1 :: vi a0 :: st) M Q = WP d 141 0 [some (vi a0), some (vi a1), some (vi a2)] [] M (fun v M' => WP (d + 1) 107 24 [l0, l1, l2, l3, l4, l5] (psh v st) M' Q) := w_callS mC_107 d107_21 rfl rfl (Nat.le_of_ble_eq_true rfl) (by decide) rfl hl
theorem d107_24 : decode cX11_fits 24 = .ok (.ifCond .ne 5, 3) := by decide +kernel
theorem k107_24 {d : Nat} {l0 l1 l2 l3 l4 l5 : Option PV} {st : List PV} {M : Mem} {Q : Option PV → Mem → Prop} {x : Int32} : WP d 107 24 [l0, l1, l2, l3, l4, l5] (vi x :: st) M Q = (if x = 0 then WP d 107 27 [l0, l1, l2, l3, l4, l5] (st) M Q else WP d 107 29 [l0, l1, l2, l3, l4, l5] (st) M Q) := w_if_ne mC_107 d107_24 (by decide)
theorem d107_27 : decode cX11_fits 27 = .ok (.iconst (-1), 1) := by decide +kernel
theorem k107_27 {d : Nat} {l0 l1 l2 l3 l4 l5 : Option PV} {st : List PV} {M : Mem} {Q : Option PV → Mem → Prop} : WP d 107 27 [l0, l1, l2, l3, l4, l5] (st) M Q = WP d 107 28 [l0, l1, l2, l3, l4, l5] (vi (-1) :: st) M Q := w_iconst mC_107 d107_27 (by decide)
theorem d107_28 : decode cX11_fits 28 = .ok (.ireturn, 1) := by decide +kernel
theorem k107_28 {d : Nat} {l0 l1 l2 l3 l4 l5 : Option PV} {M : Mem} {Q : Option PV → Mem → Prop} {x : Int32} : WP d 107 28 [l0, l1, l2, l3, l4, l5] ([vi x]) M Q = Q (some (vi x)) M := w_iret mC_107 d107_28 rfl
theorem d107_29 : decode cX11_fits 29 = .ok (.aload_n 0, 1) := by decide +kernel
theorem k107_29 {d x : Nat} {l1 l2 l3 l4 l5 : Option PV} {st : List PV} {M : Mem} {Q : Option PV → Mem → Prop} : WP d 107 29 [some (vr x), l1, l2, l3, l4, l5] (st) M Q = WP d 107 30 [some (vr x), l1, l2, l3, l4, l5] (vr x :: st) M Q := w1 mC_107 d107_29 rfl rfl
theorem d107_30 : decode cX11_fits 30 = .ok (.getfield 58, 3) := by decide +kernel
theorem k107_30 {d : Nat} {l0 l1 l2 l3 l4 l5 : Option PV} {st : List PV} {M : Mem} {Q : Option PV → Mem → Prop} {r : Nat} (hk : mK M r = 11) : WP d 107 30 [l0, l1, l2, l3, l4, l5] (vr r :: st) M Q = WP d 107 33 [l0, l1, l2, l3, l4, l5] (vr (mR M r 16) :: st) M Q := w_getr mC_107 d107_30 fE_11_58 rfl (by rw [hk]; rfl)
theorem d107_33 : decode cX11_fits 33 = .ok (.iload_n 1, 1) := by decide +kernel
theorem k107_33 {d : Nat} {x : Int32} {l0 l2 l3 l4 l5 : Option PV} {st : List PV} {M : Mem} {Q : Option PV → Mem → Prop} : WP d 107 33 [l0, some (vi x), l2, l3, l4, l5] (st) M Q = WP d 107 34 [l0, some (vi x), l2, l3, l4, l5] (vi x :: st) M Q := w1 mC_107 d107_33 rfl rfl
theorem d107_34 : decode cX11_fits 34 = .ok (.aaload, 1) := by decide +kernel
theorem k107_34 {d : Nat} {l0 l1 l2 l3 l4 l5 : Option PV} {st : List PV} {M : Mem} {Q : Option PV → Mem → Prop} {r : Nat} {j : Int32} (hk : mK M r = 15 ∨ mK M r = 16 ∨ mK M r = 17) (hj : inb j (mN M r)) (h1 : r ≠ 1) : WP d 107 34 [l0, l1, l2, l3, l4, l5] (vi j :: vr r :: st) M Q = WP d 107 35 [l0, l1, l2, l3, l4, l5] (vr (mR M r (ix j)) :: st) M Q := w_aald mC_107 d107_34 hk hj h1
theorem d107_35 : decode cX11_fits 35 = .ok (.astore 4, 2) := by decide +kernel
theorem k107_35 {d : Nat} {l0 l1 l2 l3 l4 l5 : Option PV} {st : List PV} {M : Mem} {Q : Option PV → Mem → Prop} {x : Nat} : WP d 107 35 [l0, l1, l2, l3, l4, l5] (vr x :: st) M Q = WP d 107 37 [l0, l1, l2, l3, some (vr x), l5] (st) M Q := w1 mC_107 d107_35 rfl rfl
theorem d107_37 : decode cX11_fits 37 = .ok (.aload 4, 2) := by decide +kernel
theorem k107_37 {d x : Nat} {l0 l1 l2 l3 l5 : Option PV} {st : List PV} {M : Mem} {Q : Option PV → Mem → Prop} : WP d 107 37 [l0, l1, l2, l3, some (vr x), l5] (st) M Q = WP d 107 39 [l0, l1, l2, l3, some (vr x), l5] (vr x :: st) M Q := w1 mC_107 d107_37 rfl rfl
theorem d107_39 : decode cX11_fits 39 = .ok (.invokestatic 246, 3) := by decide +kernel
theorem k107_39 {d : Nat} {l0 l1 l2 l3 l4 l5 : Option PV} {st : List PV} {M : Mem} {Q : Option PV → Mem → Prop} {a0 : Nat} (hl : szL st ≤ 8) : WP (d + 1) 107 39 [l0, l1, l2, l3, l4, l5] (vr a0 :: st) M Q = WP d 105 0 [some (vr a0)] [] M (fun v M' => WP (d + 1) 107 42 [l0, l1, l2, l3, l4, l5] (psh v st) M' Q) := w_callS mC_107 d107_39 rfl rfl (Nat.le_of_ble_eq_true rfl) (by decide) rfl hl
theorem d107_42 : decode cX11_fits 42 = .ok (.istore 5, 2) := by decide +kernel
theorem k107_42 {d : Nat} {l0 l1 l2 l3 l4 l5 : Option PV} {st : List PV} {M : Mem} {Q : Option PV → Mem → Prop} {x : Int32} : WP d 107 42 [l0, l1, l2, l3, l4, l5] (vi x :: st) M Q = WP d 107 44 [l0, l1, l2, l3, l4, some (vi x)] (st) M Q := w1 mC_107 d107_42 rfl rfl
theorem d107_44 : decode cX11_fits 44 = .ok (.iload 5, 2) := by decide +kernel
theorem k107_44 {d : Nat} {x : Int32} {l0 l1 l2 l3 l4 : Option PV} {st : List PV} {M : Mem} {Q : Option PV → Mem → Prop} : WP d 107 44 [l0, l1, l2, l3, l4, some (vi x)] (st) M Q = WP d 107 46 [l0, l1, l2, l3, l4, some (vi x)] (vi x :: st) M Q := w1 mC_107 d107_44 rfl rfl
theorem d107_46 : decode cX11_fits 46 = .ok (.ifCond .eq 6, 3) := by decide +kernel
theorem k107_46 {d : Nat} {l0 l1 l2 l3 l4 l5 : Option PV} {st : List PV} {M : Mem} {Q : Option PV → Mem → Prop} {x : Int32} : WP d 107 46 [l0, l1, l2, l3, l4, l5] (vi x :: st) M Q = (if x = 0 then WP d 107 52 [l0, l1, l2, l3, l4, l5] (st) M Q else WP d 107 49 [l0, l1, l2, l3, l4, l5] (st) M Q) := w_if_eq mC_107 d107_46 (by decide)
theorem d107_49 : decode cX11_fits 49 = .ok (.iload 5, 2) := by decide +kernel
theorem k107_49 {d : Nat} {x : Int32} {l0 l1 l2 l3 l4 : Option PV} {st : List PV} {M : Mem} {Q : Option PV → Mem → Prop} : WP d 107 49 [l0, l1, l2, l3, l4, some (vi x)] (st) M Q = WP d 107 51 [l0, l1, l2, l3, l4, some (vi x)] (vi x :: st) M Q := w1 mC_107 d107_49 rfl rfl
theorem d107_51 : decode cX11_fits 51 = .ok (.ireturn, 1) := by decide +kernel
theorem k107_51 {d : Nat} {l0 l1 l2 l3 l4 l5 : Option PV} {M : Mem} {Q : Option PV → Mem → Prop} {x : Int32} : WP d 107 51 [l0, l1, l2, l3, l4, l5] ([vi x]) M Q = Q (some (vi x)) M := w_iret mC_107 d107_51 rfl
theorem d107_52 : decode cX11_fits 52 = .ok (.iload_n 3, 1) := by decide +kernel
theorem k107_52 {d : Nat} {x : Int32} {l0 l1 l2 l4 l5 : Option PV} {st : List PV} {M : Mem} {Q : Option PV → Mem → Prop} : WP d 107 52 [l0, l1, l2, some (vi x), l4, l5] (st) M Q = WP d 107 53 [l0, l1, l2, some (vi x), l4, l5] (vi x :: st) M Q := w1 mC_107 d107_52 rfl rfl
theorem d107_53 : decode cX11_fits 53 = .ok (.ifCond .ne 13, 3) := by decide +kernel
theorem k107_53 {d : Nat} {l0 l1 l2 l3 l4 l5 : Option PV} {st : List PV} {M : Mem} {Q : Option PV → Mem → Prop} {x : Int32} : WP d 107 53 [l0, l1, l2, l3, l4, l5] (vi x :: st) M Q = (if x = 0 then WP d 107 56 [l0, l1, l2, l3, l4, l5] (st) M Q else WP d 107 66 [l0, l1, l2, l3, l4, l5] (st) M Q) := w_if_ne mC_107 d107_53 (by decide)
theorem d107_56 : decode cX11_fits 56 = .ok (.aload_n 0, 1) := by decide +kernel
theorem k107_56 {d x : Nat} {l1 l2 l3 l4 l5 : Option PV} {st : List PV} {M : Mem} {Q : Option PV → Mem → Prop} : WP d 107 56 [some (vr x), l1, l2, l3, l4, l5] (st) M Q = WP d 107 57 [some (vr x), l1, l2, l3, l4, l5] (vr x :: st) M Q := w1 mC_107 d107_56 rfl rfl
theorem d107_57 : decode cX11_fits 57 = .ok (.aload 4, 2) := by decide +kernel
theorem k107_57 {d x : Nat} {l0 l1 l2 l3 l5 : Option PV} {st : List PV} {M : Mem} {Q : Option PV → Mem → Prop} : WP d 107 57 [l0, l1, l2, l3, some (vr x), l5] (st) M Q = WP d 107 59 [l0, l1, l2, l3, some (vr x), l5] (vr x :: st) M Q := w1 mC_107 d107_57 rfl rfl
theorem d107_59 : decode cX11_fits 59 = .ok (.iload_n 2, 1) := by decide +kernel
theorem k107_59 {d : Nat} {x : Int32} {l0 l1 l3 l4 l5 : Option PV} {st : List PV} {M : Mem} {Q : Option PV → Mem → Prop} : WP d 107 59 [l0, l1, some (vi x), l3, l4, l5] (st) M Q = WP d 107 60 [l0, l1, some (vi x), l3, l4, l5] (vi x :: st) M Q := w1 mC_107 d107_59 rfl rfl
theorem d107_60 : decode cX11_fits 60 = .ok (.invokevirtual 262, 3) := by decide +kernel
theorem k107_60 {d : Nat} {l0 l1 l2 l3 l4 l5 : Option PV} {st : List PV} {M : Mem} {Q : Option PV → Mem → Prop} {a1 : Int32} {a0 : Nat} {r : Nat} (hl : szL st ≤ 8) (hk : mK M r = 11) : WP (d + 1) 107 60 [l0, l1, l2, l3, l4, l5] (vi a1 :: vr a0 :: vr r :: st) M Q = WP d 108 0 [some (vr r), some (vr a0), some (vi a1), none, none] [] M (fun v M' => WP (d + 1) 107 63 [l0, l1, l2, l3, l4, l5] (psh v st) M' Q) := w_callV mC_107 d107_60 (ci := 11) rfl rfl rfl (Nat.le_of_ble_eq_true rfl) (by decide) rfl hl (Or.inl hk)
theorem d107_63 : decode cX11_fits 63 = .ok (.goto 10, 3) := by decide +kernel
theorem k107_63 {d : Nat} {l0 l1 l2 l3 l4 l5 : Option PV} {st : List PV} {M : Mem} {Q : Option PV → Mem → Prop} : WP d 107 63 [l0, l1, l2, l3, l4, l5] (st) M Q = WP d 107 73 [l0, l1, l2, l3, l4, l5] (st) M Q := w_goto mC_107 d107_63 (by decide)
theorem d107_66 : decode cX11_fits 66 = .ok (.aload_n 0, 1) := by decide +kernel
theorem k107_66 {d x : Nat} {l1 l2 l3 l4 l5 : Option PV} {st : List PV} {M : Mem} {Q : Option PV → Mem → Prop} : WP d 107 66 [some (vr x), l1, l2, l3, l4, l5] (st) M Q = WP d 107 67 [some (vr x), l1, l2, l3, l4, l5] (vr x :: st) M Q := w1 mC_107 d107_66 rfl rfl
theorem d107_67 : decode cX11_fits 67 = .ok (.aload 4, 2) := by decide +kernel
theorem k107_67 {d x : Nat} {l0 l1 l2 l3 l5 : Option PV} {st : List PV} {M : Mem} {Q : Option PV → Mem → Prop} : WP d 107 67 [l0, l1, l2, l3, some (vr x), l5] (st) M Q = WP d 107 69 [l0, l1, l2, l3, some (vr x), l5] (vr x :: st) M Q := w1 mC_107 d107_67 rfl rfl
theorem d107_69 : decode cX11_fits 69 = .ok (.iload_n 2, 1) := by decide +kernel
theorem k107_69 {d : Nat} {x : Int32} {l0 l1 l3 l4 l5 : Option PV} {st : List PV} {M : Mem} {Q : Option PV → Mem → Prop} : WP d 107 69 [l0, l1, some (vi x), l3, l4, l5] (st) M Q = WP d 107 70 [l0, l1, some (vi x), l3, l4, l5] (vi x :: st) M Q := w1 mC_107 d107_69 rfl rfl
theorem d107_70 : decode cX11_fits 70 = .ok (.invokevirtual 265, 3) := by decide +kernel
theorem k107_70 {d : Nat} {l0 l1 l2 l3 l4 l5 : Option PV} {st : List PV} {M : Mem} {Q : Option PV → Mem → Prop} {a1 : Int32} {a0 : Nat} {r : Nat} (hl : szL st ≤ 8) (hk : mK M r = 11) : WP (d + 1) 107 70 [l0, l1, l2, l3, l4, l5] (vi a1 :: vr a0 :: vr r :: st) M Q = WP d 109 0 [some (vr r), some (vr a0), some (vi a1), none, none] [] M (fun v M' => WP (d + 1) 107 73 [l0, l1, l2, l3, l4, l5] (psh v st) M' Q) := w_callV mC_107 d107_70 (ci := 11) rfl rfl rfl (Nat.le_of_ble_eq_true rfl) (by decide) rfl hl (Or.inl hk)
theorem d107_73 : decode cX11_fits 73 = .ok (.ireturn, 1) := by decide +kernel
theorem k107_73 {d : Nat} {l0 l1 l2 l3 l4 l5 : Option PV} {M : Mem} {Q : Option PV → Mem → Prop} {x : Int32} : WP d 107 73 [l0, l1, l2, l3, l4, l5] ([vi x]) M Q = Q (some (vi x)) M := w_iret mC_107 d107_73 rfl
theorem d108_0 : decode cX11_keptBy 0 = .ok (.iconst 0, 1) := by decide +kernel
theorem k108_0 {d : Nat} {l0 l1 l2 l3 l4 : Option PV} {st : List PV} {M : Mem} {Q : Option PV → Mem → Prop} : WP d 108 0 [l0, l1, l2, l3, l4] (st) M Q = WP d 108 1 [l0, l1, l2, l3, l4] (vi 0 :: st) M Q := w_iconst mC_108 d108_0 (by decide)
theorem d108_1 : decode cX11_keptBy 1 = .ok (.istore_n 3, 1) := by decide +kernel
theorem k108_1 {d : Nat} {l0 l1 l2 l3 l4 : Option PV} {st : List PV} {M : Mem} {Q : Option PV → Mem → Prop} {x : Int32} : WP d 108 1 [l0, l1, l2, l3, l4] (vi x :: st) M Q = WP d 108 2 [l0, l1, l2, some (vi x), l4] (st) M Q := w1 mC_108 d108_1 rfl rfl
theorem d108_2 : decode cX11_keptBy 2 = .ok (.iconst 0, 1) := by decide +kernel
theorem k108_2 {d : Nat} {l0 l1 l2 l3 l4 : Option PV} {st : List PV} {M : Mem} {Q : Option PV → Mem → Prop} : WP d 108 2 [l0, l1, l2, l3, l4] (st) M Q = WP d 108 3 [l0, l1, l2, l3, l4] (vi 0 :: st) M Q := w_iconst mC_108 d108_2 (by decide)
theorem d108_3 : decode cX11_keptBy 3 = .ok (.istore 4, 2) := by decide +kernel
theorem k108_3 {d : Nat} {l0 l1 l2 l3 l4 : Option PV} {st : List PV} {M : Mem} {Q : Option PV → Mem → Prop} {x : Int32} : WP d 108 3 [l0, l1, l2, l3, l4] (vi x :: st) M Q = WP d 108 5 [l0, l1, l2, l3, some (vi x)] (st) M Q := w1 mC_108 d108_3 rfl rfl
theorem d108_5 : decode cX11_keptBy 5 = .ok (.iload 4, 2) := by decide +kernel
theorem k108_5 {d : Nat} {x : Int32} {l0 l1 l2 l3 : Option PV} {st : List PV} {M : Mem} {Q : Option PV → Mem → Prop} : WP d 108 5 [l0, l1, l2, l3, some (vi x)] (st) M Q = WP d 108 7 [l0, l1, l2, l3, some (vi x)] (vi x :: st) M Q := w1 mC_108 d108_5 rfl rfl
theorem d108_7 : decode cX11_keptBy 7 = .ok (.bipush 9, 2) := by decide +kernel
theorem k108_7 {d : Nat} {l0 l1 l2 l3 l4 : Option PV} {st : List PV} {M : Mem} {Q : Option PV → Mem → Prop} : WP d 108 7 [l0, l1, l2, l3, l4] (st) M Q = WP d 108 9 [l0, l1, l2, l3, l4] (vi 9 :: st) M Q := w_bipush mC_108 d108_7 (by decide)
theorem d108_9 : decode cX11_keptBy 9 = .ok (.if_icmp .gt 49, 3) := by decide +kernel
theorem k108_9 {d : Nat} {l0 l1 l2 l3 l4 : Option PV} {st : List PV} {M : Mem} {Q : Option PV → Mem → Prop} {x y : Int32} : WP d 108 9 [l0, l1, l2, l3, l4] (vi y :: vi x :: st) M Q = (if y < x then WP d 108 58 [l0, l1, l2, l3, l4] (st) M Q else WP d 108 12 [l0, l1, l2, l3, l4] (st) M Q) := w_ic_gt mC_108 d108_9 (by decide)
theorem d108_12 : decode cX11_keptBy 12 = .ok (.aload_n 0, 1) := by decide +kernel
theorem k108_12 {d x : Nat} {l1 l2 l3 l4 : Option PV} {st : List PV} {M : Mem} {Q : Option PV → Mem → Prop} : WP d 108 12 [some (vr x), l1, l2, l3, l4] (st) M Q = WP d 108 13 [some (vr x), l1, l2, l3, l4] (vr x :: st) M Q := w1 mC_108 d108_12 rfl rfl
theorem d108_13 : decode cX11_keptBy 13 = .ok (.getfield 16, 3) := by decide +kernel
theorem k108_13 {d : Nat} {l0 l1 l2 l3 l4 : Option PV} {st : List PV} {M : Mem} {Q : Option PV → Mem → Prop} {r : Nat} (hk : mK M r = 11) : WP d 108 13 [l0, l1, l2, l3, l4] (vr r :: st) M Q = WP d 108 16 [l0, l1, l2, l3, l4] (vr (mR M r 1) :: st) M Q := w_getr mC_108 d108_13 fE_11_16 rfl (by rw [hk]; rfl)
theorem d108_16 : decode cX11_keptBy 16 = .ok (.aload_n 0, 1) := by decide +kernel
theorem k108_16 {d x : Nat} {l1 l2 l3 l4 : Option PV} {st : List PV} {M : Mem} {Q : Option PV → Mem → Prop} : WP d 108 16 [some (vr x), l1, l2, l3, l4] (st) M Q = WP d 108 17 [some (vr x), l1, l2, l3, l4] (vr x :: st) M Q := w1 mC_108 d108_16 rfl rfl
theorem d108_17 : decode cX11_keptBy 17 = .ok (.getfield 10, 3) := by decide +kernel
theorem k108_17 {d : Nat} {l0 l1 l2 l3 l4 : Option PV} {st : List PV} {M : Mem} {Q : Option PV → Mem → Prop} {r : Nat} (hk : mK M r = 11) : WP d 108 17 [l0, l1, l2, l3, l4] (vr r :: st) M Q = WP d 108 20 [l0, l1, l2, l3, l4] (vr (mR M r 0) :: st) M Q := w_getr mC_108 d108_17 fE_11_10 rfl (by rw [hk]; rfl)
theorem d108_20 : decode cX11_keptBy 20 = .ok (.invokevirtual 151, 3) := by decide +kernel
theorem k108_20 {d : Nat} {l0 l1 l2 l3 l4 : Option PV} {st : List PV} {M : Mem} {Q : Option PV → Mem → Prop} {a0 : Nat} {r : Nat} (hl : szL st ≤ 8) (hk : mK M r = 4) : WP (d + 1) 108 20 [l0, l1, l2, l3, l4] (vr a0 :: vr r :: st) M Q = WP d 31 0 [some (vr r), some (vr a0)] [] M (fun v M' => WP (d + 1) 108 23 [l0, l1, l2, l3, l4] (psh v st) M' Q) := w_callV mC_108 d108_20 (ci := 4) rfl rfl rfl (Nat.le_of_ble_eq_true rfl) (by decide) rfl hl (Or.inl hk)
theorem d108_23 : decode cX11_keptBy 23 = .ok (.aload_n 0, 1) := by decide +kernel
theorem k108_23 {d x : Nat} {l1 l2 l3 l4 : Option PV} {st : List PV} {M : Mem} {Q : Option PV → Mem → Prop} : WP d 108 23 [some (vr x), l1, l2, l3, l4] (st) M Q = WP d 108 24 [some (vr x), l1, l2, l3, l4] (vr x :: st) M Q := w1 mC_108 d108_23 rfl rfl
theorem d108_24 : decode cX11_keptBy 24 = .ok (.getfield 16, 3) := by decide +kernel
theorem k108_24 {d : Nat} {l0 l1 l2 l3 l4 : Option PV} {st : List PV} {M : Mem} {Q : Option PV → Mem → Prop} {r : Nat} (hk : mK M r = 11) : WP d 108 24 [l0, l1, l2, l3, l4] (vr r :: st) M Q = WP d 108 27 [l0, l1, l2, l3, l4] (vr (mR M r 1) :: st) M Q := w_getr mC_108 d108_24 fE_11_16 rfl (by rw [hk]; rfl)
theorem d108_27 : decode cX11_keptBy 27 = .ok (.getfield 234, 3) := by decide +kernel
theorem k108_27 {d : Nat} {l0 l1 l2 l3 l4 : Option PV} {st : List PV} {M : Mem} {Q : Option PV → Mem → Prop} {r : Nat} (hk : mK M r = 4) : WP d 108 27 [l0, l1, l2, l3, l4] (vr r :: st) M Q = WP d 108 30 [l0, l1, l2, l3, l4] (vr (mR M r 3) :: st) M Q := w_getr mC_108 d108_27 fE_11_234 rfl (by rw [hk]; rfl)
theorem d108_30 : decode cX11_keptBy 30 = .ok (.iload_n 2, 1) := by decide +kernel
theorem k108_30 {d : Nat} {x : Int32} {l0 l1 l3 l4 : Option PV} {st : List PV} {M : Mem} {Q : Option PV → Mem → Prop} : WP d 108 30 [l0, l1, some (vi x), l3, l4] (st) M Q = WP d 108 31 [l0, l1, some (vi x), l3, l4] (vi x :: st) M Q := w1 mC_108 d108_30 rfl rfl
theorem d108_31 : decode cX11_keptBy 31 = .ok (.iload 4, 2) := by decide +kernel
theorem k108_31 {d : Nat} {x : Int32} {l0 l1 l2 l3 : Option PV} {st : List PV} {M : Mem} {Q : Option PV → Mem → Prop} : WP d 108 31 [l0, l1, l2, l3, some (vi x)] (st) M Q = WP d 108 33 [l0, l1, l2, l3, some (vi x)] (vi x :: st) M Q := w1 mC_108 d108_31 rfl rfl
theorem d108_33 : decode cX11_keptBy 33 = .ok (.iastore, 1) := by decide +kernel
theorem k108_33 {d : Nat} {l0 l1 l2 l3 l4 : Option PV} {st : List PV} {M : Mem} {Q : Option PV → Mem → Prop} {r : Nat} {j x : Int32} (hk : mK M r = 13) (hj : inb j (mN M r)) (h1 : r ≠ 1) : WP d 108 33 [l0, l1, l2, l3, l4] (vi x :: vi j :: vr r :: st) M Q = WP d 108 34 [l0, l1, l2, l3, l4] (st) (sI M r (ix j) x) Q := w_iast mC_108 d108_33 hk hj h1
theorem d108_34 : decode cX11_keptBy 34 = .ok (.aload_n 0, 1) := by decide +kernel
theorem k108_34 {d x : Nat} {l1 l2 l3 l4 : Option PV} {st : List PV} {M : Mem} {Q : Option PV → Mem → Prop} : WP d 108 34 [some (vr x), l1, l2, l3, l4] (st) M Q = WP d 108 35 [some (vr x), l1, l2, l3, l4] (vr x :: st) M Q := w1 mC_108 d108_34 rfl rfl
theorem d108_35 : decode cX11_keptBy 35 = .ok (.aload_n 1, 1) := by decide +kernel
theorem k108_35 {d x : Nat} {l0 l2 l3 l4 : Option PV} {st : List PV} {M : Mem} {Q : Option PV → Mem → Prop} : WP d 108 35 [l0, some (vr x), l2, l3, l4] (st) M Q = WP d 108 36 [l0, some (vr x), l2, l3, l4] (vr x :: st) M Q := w1 mC_108 d108_35 rfl rfl
theorem d108_36 : decode cX11_keptBy 36 = .ok (.iload_n 2, 1) := by decide +kernel
theorem k108_36 {d : Nat} {x : Int32} {l0 l1 l3 l4 : Option PV} {st : List PV} {M : Mem} {Q : Option PV → Mem → Prop} : WP d 108 36 [l0, l1, some (vi x), l3, l4] (st) M Q = WP d 108 37 [l0, l1, some (vi x), l3, l4] (vi x :: st) M Q := w1 mC_108 d108_36 rfl rfl
theorem d108_37 : decode cX11_keptBy 37 = .ok (.invokevirtual 250, 3) := by decide +kernel
theorem k108_37 {d : Nat} {l0 l1 l2 l3 l4 : Option PV} {st : List PV} {M : Mem} {Q : Option PV → Mem → Prop} {a1 : Int32} {a0 : Nat} {r : Nat} (hl : szL st ≤ 8) (hk : mK M r = 11) : WP (d + 1) 108 37 [l0, l1, l2, l3, l4] (vi a1 :: vr a0 :: vr r :: st) M Q = WP d 106 0 [some (vr r), some (vr a0), some (vi a1), none, none, none, none] [] M (fun v M' => WP (d + 1) 108 40 [l0, l1, l2, l3, l4] (psh v st) M' Q) := w_callV mC_108 d108_37 (ci := 11) rfl rfl rfl (Nat.le_of_ble_eq_true rfl) (by decide) rfl hl (Or.inl hk)
theorem d108_40 : decode cX11_keptBy 40 = .ok (.bipush (-2), 2) := by decide +kernel
theorem k108_40 {d : Nat} {l0 l1 l2 l3 l4 : Option PV} {st : List PV} {M : Mem} {Q : Option PV → Mem → Prop} : WP d 108 40 [l0, l1, l2, l3, l4] (st) M Q = WP d 108 42 [l0, l1, l2, l3, l4] (vi (-2) :: st) M Q := w_bipush mC_108 d108_40 (by decide)
theorem d108_42 : decode cX11_keptBy 42 = .ok (.if_icmp .ne 10, 3) := by decide +kernel
theorem k108_42 {d : Nat} {l0 l1 l2 l3 l4 : Option PV} {st : List PV} {M : Mem} {Q : Option PV → Mem → Prop} {x y : Int32} : WP d 108 42 [l0, l1, l2, l3, l4] (vi y :: vi x :: st) M Q = (if x = y then WP d 108 45 [l0, l1, l2, l3, l4] (st) M Q else WP d 108 52 [l0, l1, l2, l3, l4] (st) M Q) := w_ic_ne mC_108 d108_42 (by decide)
theorem d108_45 : decode cX11_keptBy 45 = .ok (.iload_n 3, 1) := by decide +kernel
theorem k108_45 {d : Nat} {x : Int32} {l0 l1 l2 l4 : Option PV} {st : List PV} {M : Mem} {Q : Option PV → Mem → Prop} : WP d 108 45 [l0, l1, l2, some (vi x), l4] (st) M Q = WP d 108 46 [l0, l1, l2, some (vi x), l4] (vi x :: st) M Q := w1 mC_108 d108_45 rfl rfl
theorem d108_46 : decode cX11_keptBy 46 = .ok (.iconst 1, 1) := by decide +kernel
theorem k108_46 {d : Nat} {l0 l1 l2 l3 l4 : Option PV} {st : List PV} {M : Mem} {Q : Option PV → Mem → Prop} : WP d 108 46 [l0, l1, l2, l3, l4] (st) M Q = WP d 108 47 [l0, l1, l2, l3, l4] (vi 1 :: st) M Q := w_iconst mC_108 d108_46 (by decide)
theorem d108_47 : decode cX11_keptBy 47 = .ok (.iload 4, 2) := by decide +kernel
theorem k108_47 {d : Nat} {x : Int32} {l0 l1 l2 l3 : Option PV} {st : List PV} {M : Mem} {Q : Option PV → Mem → Prop} : WP d 108 47 [l0, l1, l2, l3, some (vi x)] (st) M Q = WP d 108 49 [l0, l1, l2, l3, some (vi x)] (vi x :: st) M Q := w1 mC_108 d108_47 rfl rfl
theorem d108_49 : decode cX11_keptBy 49 = .ok (.ishl, 1) := by decide +kernel
theorem k108_49 {d : Nat} {l0 l1 l2 l3 l4 : Option PV} {st : List PV} {M : Mem} {Q : Option PV → Mem → Prop} {x y : Int32} : WP d 108 49 [l0, l1, l2, l3, l4] (vi y :: vi x :: st) M Q = WP d 108 50 [l0, l1, l2, l3, l4] (vi (x <<< (y &&& 31)) :: st) M Q := w1 mC_108 d108_49 rfl rfl
theorem d108_50 : decode cX11_keptBy 50 = .ok (.ior, 1) := by decide +kernel
theorem k108_50 {d : Nat} {l0 l1 l2 l3 l4 : Option PV} {st : List PV} {M : Mem} {Q : Option PV → Mem → Prop} {x y : Int32} : WP d 108 50 [l0, l1, l2, l3, l4] (vi y :: vi x :: st) M Q = WP d 108 51 [l0, l1, l2, l3, l4] (vi (x ||| y) :: st) M Q := w1 mC_108 d108_50 rfl rfl
theorem d108_51 : decode cX11_keptBy 51 = .ok (.istore_n 3, 1) := by decide +kernel
theorem k108_51 {d : Nat} {l0 l1 l2 l3 l4 : Option PV} {st : List PV} {M : Mem} {Q : Option PV → Mem → Prop} {x : Int32} : WP d 108 51 [l0, l1, l2, l3, l4] (vi x :: st) M Q = WP d 108 52 [l0, l1, l2, some (vi x), l4] (st) M Q := w1 mC_108 d108_51 rfl rfl
theorem d108_52 : decode cX11_keptBy 52 = .ok (.iinc 4 1, 3) := by decide +kernel
theorem k108_52 {d : Nat} {x : Int32} {l0 l1 l2 l3 : Option PV} {st : List PV} {M : Mem} {Q : Option PV → Mem → Prop} : WP d 108 52 [l0, l1, l2, l3, some (vi x)] (st) M Q = WP d 108 55 [l0, l1, l2, l3, some (vi (x + 1))] (st) M Q := w_iinc mC_108 d108_52 rfl (by decide) rfl
theorem d108_55 : decode cX11_keptBy 55 = .ok (.goto (-50), 3) := by decide +kernel
theorem k108_55 {d : Nat} {l0 l1 l2 l3 l4 : Option PV} {st : List PV} {M : Mem} {Q : Option PV → Mem → Prop} : WP d 108 55 [l0, l1, l2, l3, l4] (st) M Q = WP d 108 5 [l0, l1, l2, l3, l4] (st) M Q := w_goto mC_108 d108_55 (by decide)
theorem d108_58 : decode cX11_keptBy 58 = .ok (.iload_n 3, 1) := by decide +kernel
theorem k108_58 {d : Nat} {x : Int32} {l0 l1 l2 l4 : Option PV} {st : List PV} {M : Mem} {Q : Option PV → Mem → Prop} : WP d 108 58 [l0, l1, l2, some (vi x), l4] (st) M Q = WP d 108 59 [l0, l1, l2, some (vi x), l4] (vi x :: st) M Q := w1 mC_108 d108_58 rfl rfl
theorem d108_59 : decode cX11_keptBy 59 = .ok (.ireturn, 1) := by decide +kernel
theorem k108_59 {d : Nat} {l0 l1 l2 l3 l4 : Option PV} {M : Mem} {Q : Option PV → Mem → Prop} {x : Int32} : WP d 108 59 [l0, l1, l2, l3, l4] ([vi x]) M Q = Q (some (vi x)) M := w_iret mC_108 d108_59 rfl
theorem d109_0 : decode cX11_whose 0 = .ok (.iconst 0, 1) := by decide +kernel
theorem k109_0 {d : Nat} {l0 l1 l2 l3 l4 : Option PV} {st : List PV} {M : Mem} {Q : Option PV → Mem → Prop} : WP d 109 0 [l0, l1, l2, l3, l4] (st) M Q = WP d 109 1 [l0, l1, l2, l3, l4] (vi 0 :: st) M Q := w_iconst mC_109 d109_0 (by decide)
theorem d109_1 : decode cX11_whose 1 = .ok (.istore_n 3, 1) := by decide +kernel
theorem k109_1 {d : Nat} {l0 l1 l2 l3 l4 : Option PV} {st : List PV} {M : Mem} {Q : Option PV → Mem → Prop} {x : Int32} : WP d 109 1 [l0, l1, l2, l3, l4] (vi x :: st) M Q = WP d 109 2 [l0, l1, l2, some (vi x), l4] (st) M Q := w1 mC_109 d109_1 rfl rfl
theorem d109_2 : decode cX11_whose 2 = .ok (.iconst (-1), 1) := by decide +kernel
theorem k109_2 {d : Nat} {l0 l1 l2 l3 l4 : Option PV} {st : List PV} {M : Mem} {Q : Option PV → Mem → Prop} : WP d 109 2 [l0, l1, l2, l3, l4] (st) M Q = WP d 109 3 [l0, l1, l2, l3, l4] (vi (-1) :: st) M Q := w_iconst mC_109 d109_2 (by decide)
theorem d109_3 : decode cX11_whose 3 = .ok (.istore 4, 2) := by decide +kernel
theorem k109_3 {d : Nat} {l0 l1 l2 l3 l4 : Option PV} {st : List PV} {M : Mem} {Q : Option PV → Mem → Prop} {x : Int32} : WP d 109 3 [l0, l1, l2, l3, l4] (vi x :: st) M Q = WP d 109 5 [l0, l1, l2, l3, some (vi x)] (st) M Q := w1 mC_109 d109_3 rfl rfl
theorem d109_5 : decode cX11_whose 5 = .ok (.iload 4, 2) := by decide +kernel
theorem k109_5 {d : Nat} {x : Int32} {l0 l1 l2 l3 : Option PV} {st : List PV} {M : Mem} {Q : Option PV → Mem → Prop} : WP d 109 5 [l0, l1, l2, l3, some (vi x)] (st) M Q = WP d 109 7 [l0, l1, l2, l3, some (vi x)] (vi x :: st) M Q := w1 mC_109 d109_5 rfl rfl
theorem d109_7 : decode cX11_whose 7 = .ok (.aload_n 0, 1) := by decide +kernel
theorem k109_7 {d x : Nat} {l1 l2 l3 l4 : Option PV} {st : List PV} {M : Mem} {Q : Option PV → Mem → Prop} : WP d 109 7 [some (vr x), l1, l2, l3, l4] (st) M Q = WP d 109 8 [some (vr x), l1, l2, l3, l4] (vr x :: st) M Q := w1 mC_109 d109_7 rfl rfl
theorem d109_8 : decode cX11_whose 8 = .ok (.getfield 10, 3) := by decide +kernel
theorem k109_8 {d : Nat} {l0 l1 l2 l3 l4 : Option PV} {st : List PV} {M : Mem} {Q : Option PV → Mem → Prop} {r : Nat} (hk : mK M r = 11) : WP d 109 8 [l0, l1, l2, l3, l4] (vr r :: st) M Q = WP d 109 11 [l0, l1, l2, l3, l4] (vr (mR M r 0) :: st) M Q := w_getr mC_109 d109_8 fE_11_10 rfl (by rw [hk]; rfl)
theorem d109_11 : decode cX11_whose 11 = .ok (.getfield 199, 3) := by decide +kernel
theorem k109_11 {d : Nat} {l0 l1 l2 l3 l4 : Option PV} {st : List PV} {M : Mem} {Q : Option PV → Mem → Prop} {r : Nat} (hk : mK M r = 4) : WP d 109 11 [l0, l1, l2, l3, l4] (vr r :: st) M Q = WP d 109 14 [l0, l1, l2, l3, l4] (vi (mI M r 7) :: st) M Q := w_get mC_109 d109_11 fE_11_199 rfl (by rw [hk]; rfl)
theorem d109_14 : decode cX11_whose 14 = .ok (.if_icmp .ge 61, 3) := by decide +kernel
theorem k109_14 {d : Nat} {l0 l1 l2 l3 l4 : Option PV} {st : List PV} {M : Mem} {Q : Option PV → Mem → Prop} {x y : Int32} : WP d 109 14 [l0, l1, l2, l3, l4] (vi y :: vi x :: st) M Q = (if y ≤ x then WP d 109 75 [l0, l1, l2, l3, l4] (st) M Q else WP d 109 17 [l0, l1, l2, l3, l4] (st) M Q) := w_ic_ge mC_109 d109_14 (by decide)
theorem d109_17 : decode cX11_whose 17 = .ok (.aload_n 0, 1) := by decide +kernel
theorem k109_17 {d x : Nat} {l1 l2 l3 l4 : Option PV} {st : List PV} {M : Mem} {Q : Option PV → Mem → Prop} : WP d 109 17 [some (vr x), l1, l2, l3, l4] (st) M Q = WP d 109 18 [some (vr x), l1, l2, l3, l4] (vr x :: st) M Q := w1 mC_109 d109_17 rfl rfl
theorem d109_18 : decode cX11_whose 18 = .ok (.getfield 16, 3) := by decide +kernel
theorem k109_18 {d : Nat} {l0 l1 l2 l3 l4 : Option PV} {st : List PV} {M : Mem} {Q : Option PV → Mem → Prop} {r : Nat} (hk : mK M r = 11) : WP d 109 18 [l0, l1, l2, l3, l4] (vr r :: st) M Q = WP d 109 21 [l0, l1, l2, l3, l4] (vr (mR M r 1) :: st) M Q := w_getr mC_109 d109_18 fE_11_16 rfl (by rw [hk]; rfl)
theorem d109_21 : decode cX11_whose 21 = .ok (.aload_n 0, 1) := by decide +kernel
theorem k109_21 {d x : Nat} {l1 l2 l3 l4 : Option PV} {st : List PV} {M : Mem} {Q : Option PV → Mem → Prop} : WP d 109 21 [some (vr x), l1, l2, l3, l4] (st) M Q = WP d 109 22 [some (vr x), l1, l2, l3, l4] (vr x :: st) M Q := w1 mC_109 d109_21 rfl rfl
theorem d109_22 : decode cX11_whose 22 = .ok (.getfield 10, 3) := by decide +kernel
theorem k109_22 {d : Nat} {l0 l1 l2 l3 l4 : Option PV} {st : List PV} {M : Mem} {Q : Option PV → Mem → Prop} {r : Nat} (hk : mK M r = 11) : WP d 109 22 [l0, l1, l2, l3, l4] (vr r :: st) M Q = WP d 109 25 [l0, l1, l2, l3, l4] (vr (mR M r 0) :: st) M Q := w_getr mC_109 d109_22 fE_11_10 rfl (by rw [hk]; rfl)
theorem d109_25 : decode cX11_whose 25 = .ok (.invokevirtual 151, 3) := by decide +kernel
theorem k109_25 {d : Nat} {l0 l1 l2 l3 l4 : Option PV} {st : List PV} {M : Mem} {Q : Option PV → Mem → Prop} {a0 : Nat} {r : Nat} (hl : szL st ≤ 8) (hk : mK M r = 4) : WP (d + 1) 109 25 [l0, l1, l2, l3, l4] (vr a0 :: vr r :: st) M Q = WP d 31 0 [some (vr r), some (vr a0)] [] M (fun v M' => WP (d + 1) 109 28 [l0, l1, l2, l3, l4] (psh v st) M' Q) := w_callV mC_109 d109_25 (ci := 4) rfl rfl rfl (Nat.le_of_ble_eq_true rfl) (by decide) rfl hl (Or.inl hk)
theorem d109_28 : decode cX11_whose 28 = .ok (.aload_n 0, 1) := by decide +kernel
theorem k109_28 {d x : Nat} {l1 l2 l3 l4 : Option PV} {st : List PV} {M : Mem} {Q : Option PV → Mem → Prop} : WP d 109 28 [some (vr x), l1, l2, l3, l4] (st) M Q = WP d 109 29 [some (vr x), l1, l2, l3, l4] (vr x :: st) M Q := w1 mC_109 d109_28 rfl rfl
theorem d109_29 : decode cX11_whose 29 = .ok (.getfield 16, 3) := by decide +kernel
theorem k109_29 {d : Nat} {l0 l1 l2 l3 l4 : Option PV} {st : List PV} {M : Mem} {Q : Option PV → Mem → Prop} {r : Nat} (hk : mK M r = 11) : WP d 109 29 [l0, l1, l2, l3, l4] (vr r :: st) M Q = WP d 109 32 [l0, l1, l2, l3, l4] (vr (mR M r 1) :: st) M Q := w_getr mC_109 d109_29 fE_11_16 rfl (by rw [hk]; rfl)
theorem d109_32 : decode cX11_whose 32 = .ok (.getfield 145, 3) := by decide +kernel
theorem k109_32 {d : Nat} {l0 l1 l2 l3 l4 : Option PV} {st : List PV} {M : Mem} {Q : Option PV → Mem → Prop} {r : Nat} (hk : mK M r = 4) : WP d 109 32 [l0, l1, l2, l3, l4] (vr r :: st) M Q = WP d 109 35 [l0, l1, l2, l3, l4] (vr (mR M r 4) :: st) M Q := w_getr mC_109 d109_32 fE_11_145 rfl (by rw [hk]; rfl)
theorem d109_35 : decode cX11_whose 35 = .ok (.iload_n 2, 1) := by decide +kernel
theorem k109_35 {d : Nat} {x : Int32} {l0 l1 l3 l4 : Option PV} {st : List PV} {M : Mem} {Q : Option PV → Mem → Prop} : WP d 109 35 [l0, l1, some (vi x), l3, l4] (st) M Q = WP d 109 36 [l0, l1, some (vi x), l3, l4] (vi x :: st) M Q := w1 mC_109 d109_35 rfl rfl
theorem d109_36 : decode cX11_whose 36 = .ok (.iload 4, 2) := by decide +kernel
theorem k109_36 {d : Nat} {x : Int32} {l0 l1 l2 l3 : Option PV} {st : List PV} {M : Mem} {Q : Option PV → Mem → Prop} : WP d 109 36 [l0, l1, l2, l3, some (vi x)] (st) M Q = WP d 109 38 [l0, l1, l2, l3, some (vi x)] (vi x :: st) M Q := w1 mC_109 d109_36 rfl rfl
theorem d109_38 : decode cX11_whose 38 = .ok (.iastore, 1) := by decide +kernel
theorem k109_38 {d : Nat} {l0 l1 l2 l3 l4 : Option PV} {st : List PV} {M : Mem} {Q : Option PV → Mem → Prop} {r : Nat} {j x : Int32} (hk : mK M r = 13) (hj : inb j (mN M r)) (h1 : r ≠ 1) : WP d 109 38 [l0, l1, l2, l3, l4] (vi x :: vi j :: vr r :: st) M Q = WP d 109 39 [l0, l1, l2, l3, l4] (st) (sI M r (ix j) x) Q := w_iast mC_109 d109_38 hk hj h1
theorem d109_39 : decode cX11_whose 39 = .ok (.aload_n 0, 1) := by decide +kernel
theorem k109_39 {d x : Nat} {l1 l2 l3 l4 : Option PV} {st : List PV} {M : Mem} {Q : Option PV → Mem → Prop} : WP d 109 39 [some (vr x), l1, l2, l3, l4] (st) M Q = WP d 109 40 [some (vr x), l1, l2, l3, l4] (vr x :: st) M Q := w1 mC_109 d109_39 rfl rfl
theorem d109_40 : decode cX11_whose 40 = .ok (.aload_n 1, 1) := by decide +kernel
theorem k109_40 {d x : Nat} {l0 l2 l3 l4 : Option PV} {st : List PV} {M : Mem} {Q : Option PV → Mem → Prop} : WP d 109 40 [l0, some (vr x), l2, l3, l4] (st) M Q = WP d 109 41 [l0, some (vr x), l2, l3, l4] (vr x :: st) M Q := w1 mC_109 d109_40 rfl rfl
theorem d109_41 : decode cX11_whose 41 = .ok (.iload_n 2, 1) := by decide +kernel
theorem k109_41 {d : Nat} {x : Int32} {l0 l1 l3 l4 : Option PV} {st : List PV} {M : Mem} {Q : Option PV → Mem → Prop} : WP d 109 41 [l0, l1, some (vi x), l3, l4] (st) M Q = WP d 109 42 [l0, l1, some (vi x), l3, l4] (vi x :: st) M Q := w1 mC_109 d109_41 rfl rfl
theorem d109_42 : decode cX11_whose 42 = .ok (.invokevirtual 250, 3) := by decide +kernel
theorem k109_42 {d : Nat} {l0 l1 l2 l3 l4 : Option PV} {st : List PV} {M : Mem} {Q : Option PV → Mem → Prop} {a1 : Int32} {a0 : Nat} {r : Nat} (hl : szL st ≤ 8) (hk : mK M r = 11) : WP (d + 1) 109 42 [l0, l1, l2, l3, l4] (vi a1 :: vr a0 :: vr r :: st) M Q = WP d 106 0 [some (vr r), some (vr a0), some (vi a1), none, none, none, none] [] M (fun v M' => WP (d + 1) 109 45 [l0, l1, l2, l3, l4] (psh v st) M' Q) := w_callV mC_109 d109_42 (ci := 11) rfl rfl rfl (Nat.le_of_ble_eq_true rfl) (by decide) rfl hl (Or.inl hk)
theorem d109_45 : decode cX11_whose 45 = .ok (.bipush (-2), 2) := by decide +kernel
theorem k109_45 {d : Nat} {l0 l1 l2 l3 l4 : Option PV} {st : List PV} {M : Mem} {Q : Option PV → Mem → Prop} : WP d 109 45 [l0, l1, l2, l3, l4] (st) M Q = WP d 109 47 [l0, l1, l2, l3, l4] (vi (-2) :: st) M Q := w_bipush mC_109 d109_45 (by decide)
theorem d109_47 : decode cX11_whose 47 = .ok (.if_icmp .ne 22, 3) := by decide +kernel
theorem k109_47 {d : Nat} {l0 l1 l2 l3 l4 : Option PV} {st : List PV} {M : Mem} {Q : Option PV → Mem → Prop} {x y : Int32} : WP d 109 47 [l0, l1, l2, l3, l4] (vi y :: vi x :: st) M Q = (if x = y then WP d 109 50 [l0, l1, l2, l3, l4] (st) M Q else WP d 109 69 [l0, l1, l2, l3, l4] (st) M Q) := w_ic_ne mC_109 d109_47 (by decide)
theorem d109_50 : decode cX11_whose 50 = .ok (.iload_n 3, 1) := by decide +kernel
theorem k109_50 {d : Nat} {x : Int32} {l0 l1 l2 l4 : Option PV} {st : List PV} {M : Mem} {Q : Option PV → Mem → Prop} : WP d 109 50 [l0, l1, l2, some (vi x), l4] (st) M Q = WP d 109 51 [l0, l1, l2, some (vi x), l4] (vi x :: st) M Q := w1 mC_109 d109_50 rfl rfl
theorem d109_51 : decode cX11_whose 51 = .ok (.iload 4, 2) := by decide +kernel
theorem k109_51 {d : Nat} {x : Int32} {l0 l1 l2 l3 : Option PV} {st : List PV} {M : Mem} {Q : Option PV → Mem → Prop} : WP d 109 51 [l0, l1, l2, l3, some (vi x)] (st) M Q = WP d 109 53 [l0, l1, l2, l3, some (vi x)] (vi x :: st) M Q := w1 mC_109 d109_51 rfl rfl
theorem d109_53 : decode cX11_whose 53 = .ok (.iconst (-1), 1) := by decide +kernel
theorem k109_53 {d : Nat} {l0 l1 l2 l3 l4 : Option PV} {st : List PV} {M : Mem} {Q : Option PV → Mem → Prop} : WP d 109 53 [l0, l1, l2, l3, l4] (st) M Q = WP d 109 54 [l0, l1, l2, l3, l4] (vi (-1) :: st) M Q := w_iconst mC_109 d109_53 (by decide)
theorem d109_54 : decode cX11_whose 54 = .ok (.if_icmp .ne 9, 3) := by decide +kernel
theorem k109_54 {d : Nat} {l0 l1 l2 l3 l4 : Option PV} {st : List PV} {M : Mem} {Q : Option PV → Mem → Prop} {x y : Int32} : WP d 109 54 [l0, l1, l2, l3, l4] (vi y :: vi x :: st) M Q = (if x = y then WP d 109 57 [l0, l1, l2, l3, l4] (st) M Q else WP d 109 63 [l0, l1, l2, l3, l4] (st) M Q) := w_ic_ne mC_109 d109_54 (by decide)
theorem d109_57 : decode cX11_whose 57 = .ok (.sipush 256, 3) := by decide +kernel
theorem k109_57 {d : Nat} {l0 l1 l2 l3 l4 : Option PV} {st : List PV} {M : Mem} {Q : Option PV → Mem → Prop} : WP d 109 57 [l0, l1, l2, l3, l4] (st) M Q = WP d 109 60 [l0, l1, l2, l3, l4] (vi 256 :: st) M Q := w_sipush mC_109 d109_57 (by decide)
theorem d109_60 : decode cX11_whose 60 = .ok (.goto 7, 3) := by decide +kernel
theorem k109_60 {d : Nat} {l0 l1 l2 l3 l4 : Option PV} {st : List PV} {M : Mem} {Q : Option PV → Mem → Prop} : WP d 109 60 [l0, l1, l2, l3, l4] (st) M Q = WP d 109 67 [l0, l1, l2, l3, l4] (st) M Q := w_goto mC_109 d109_60 (by decide)
theorem d109_63 : decode cX11_whose 63 = .ok (.iconst 1, 1) := by decide +kernel
theorem k109_63 {d : Nat} {l0 l1 l2 l3 l4 : Option PV} {st : List PV} {M : Mem} {Q : Option PV → Mem → Prop} : WP d 109 63 [l0, l1, l2, l3, l4] (st) M Q = WP d 109 64 [l0, l1, l2, l3, l4] (vi 1 :: st) M Q := w_iconst mC_109 d109_63 (by decide)
theorem d109_64 : decode cX11_whose 64 = .ok (.iload 4, 2) := by decide +kernel
theorem k109_64 {d : Nat} {x : Int32} {l0 l1 l2 l3 : Option PV} {st : List PV} {M : Mem} {Q : Option PV → Mem → Prop} : WP d 109 64 [l0, l1, l2, l3, some (vi x)] (st) M Q = WP d 109 66 [l0, l1, l2, l3, some (vi x)] (vi x :: st) M Q := w1 mC_109 d109_64 rfl rfl
theorem d109_66 : decode cX11_whose 66 = .ok (.ishl, 1) := by decide +kernel
theorem k109_66 {d : Nat} {l0 l1 l2 l3 l4 : Option PV} {st : List PV} {M : Mem} {Q : Option PV → Mem → Prop} {x y : Int32} : WP d 109 66 [l0, l1, l2, l3, l4] (vi y :: vi x :: st) M Q = WP d 109 67 [l0, l1, l2, l3, l4] (vi (x <<< (y &&& 31)) :: st) M Q := w1 mC_109 d109_66 rfl rfl
theorem d109_67 : decode cX11_whose 67 = .ok (.ior, 1) := by decide +kernel
theorem k109_67 {d : Nat} {l0 l1 l2 l3 l4 : Option PV} {st : List PV} {M : Mem} {Q : Option PV → Mem → Prop} {x y : Int32} : WP d 109 67 [l0, l1, l2, l3, l4] (vi y :: vi x :: st) M Q = WP d 109 68 [l0, l1, l2, l3, l4] (vi (x ||| y) :: st) M Q := w1 mC_109 d109_67 rfl rfl
theorem d109_68 : decode cX11_whose 68 = .ok (.istore_n 3, 1) := by decide +kernel
theorem k109_68 {d : Nat} {l0 l1 l2 l3 l4 : Option PV} {st : List PV} {M : Mem} {Q : Option PV → Mem → Prop} {x : Int32} : WP d 109 68 [l0, l1, l2, l3, l4] (vi x :: st) M Q = WP d 109 69 [l0, l1, l2, some (vi x), l4] (st) M Q := w1 mC_109 d109_68 rfl rfl
theorem d109_69 : decode cX11_whose 69 = .ok (.iinc 4 1, 3) := by decide +kernel
theorem k109_69 {d : Nat} {x : Int32} {l0 l1 l2 l3 : Option PV} {st : List PV} {M : Mem} {Q : Option PV → Mem → Prop} : WP d 109 69 [l0, l1, l2, l3, some (vi x)] (st) M Q = WP d 109 72 [l0, l1, l2, l3, some (vi (x + 1))] (st) M Q := w_iinc mC_109 d109_69 rfl (by decide) rfl
theorem d109_72 : decode cX11_whose 72 = .ok (.goto (-67), 3) := by decide +kernel
theorem k109_72 {d : Nat} {l0 l1 l2 l3 l4 : Option PV} {st : List PV} {M : Mem} {Q : Option PV → Mem → Prop} : WP d 109 72 [l0, l1, l2, l3, l4] (st) M Q = WP d 109 5 [l0, l1, l2, l3, l4] (st) M Q := w_goto mC_109 d109_72 (by decide)
theorem d109_75 : decode cX11_whose 75 = .ok (.iload_n 3, 1) := by decide +kernel
theorem k109_75 {d : Nat} {x : Int32} {l0 l1 l2 l4 : Option PV} {st : List PV} {M : Mem} {Q : Option PV → Mem → Prop} : WP d 109 75 [l0, l1, l2, some (vi x), l4] (st) M Q = WP d 109 76 [l0, l1, l2, some (vi x), l4] (vi x :: st) M Q := w1 mC_109 d109_75 rfl rfl
theorem d109_76 : decode cX11_whose 76 = .ok (.ireturn, 1) := by decide +kernel
theorem k109_76 {d : Nat} {l0 l1 l2 l3 l4 : Option PV} {M : Mem} {Q : Option PV → Mem → Prop} {x : Int32} : WP d 109 76 [l0, l1, l2, l3, l4] ([vi x]) M Q = Q (some (vi x)) M := w_iret mC_109 d109_76 rfl
theorem d110_0 : decode cX11_alike 0 = .ok (.iconst 0, 1) := by decide +kernel
theorem k110_0 {d : Nat} {l0 l1 l2 l3 : Option PV} {st : List PV} {M : Mem} {Q : Option PV → Mem → Prop} : WP d 110 0 [l0, l1, l2, l3] (st) M Q = WP d 110 1 [l0, l1, l2, l3] (vi 0 :: st) M Q := w_iconst mC_110 d110_0 (by decide)
theorem d110_1 : decode cX11_alike 1 = .ok (.istore_n 1, 1) := by decide +kernel
theorem k110_1 {d : Nat} {l0 l1 l2 l3 : Option PV} {st : List PV} {M : Mem} {Q : Option PV → Mem → Prop} {x : Int32} : WP d 110 1 [l0, l1, l2, l3] (vi x :: st) M Q = WP d 110 2 [l0, some (vi x), l2, l3] (st) M Q := w1 mC_110 d110_1 rfl rfl
theorem d110_2 : decode cX11_alike 2 = .ok (.iconst 0, 1) := by decide +kernel
theorem k110_2 {d : Nat} {l0 l1 l2 l3 : Option PV} {st : List PV} {M : Mem} {Q : Option PV → Mem → Prop} : WP d 110 2 [l0, l1, l2, l3] (st) M Q = WP d 110 3 [l0, l1, l2, l3] (vi 0 :: st) M Q := w_iconst mC_110 d110_2 (by decide)
theorem d110_3 : decode cX11_alike 3 = .ok (.istore_n 2, 1) := by decide +kernel
theorem k110_3 {d : Nat} {l0 l1 l2 l3 : Option PV} {st : List PV} {M : Mem} {Q : Option PV → Mem → Prop} {x : Int32} : WP d 110 3 [l0, l1, l2, l3] (vi x :: st) M Q = WP d 110 4 [l0, l1, some (vi x), l3] (st) M Q := w1 mC_110 d110_3 rfl rfl
theorem d110_4 : decode cX11_alike 4 = .ok (.iload_n 2, 1) := by decide +kernel
theorem k110_4 {d : Nat} {x : Int32} {l0 l1 l3 : Option PV} {st : List PV} {M : Mem} {Q : Option PV → Mem → Prop} : WP d 110 4 [l0, l1, some (vi x), l3] (st) M Q = WP d 110 5 [l0, l1, some (vi x), l3] (vi x :: st) M Q := w1 mC_110 d110_4 rfl rfl
theorem d110_5 : decode cX11_alike 5 = .ok (.aload_n 0, 1) := by decide +kernel
theorem k110_5 {d x : Nat} {l1 l2 l3 : Option PV} {st : List PV} {M : Mem} {Q : Option PV → Mem → Prop} : WP d 110 5 [some (vr x), l1, l2, l3] (st) M Q = WP d 110 6 [some (vr x), l1, l2, l3] (vr x :: st) M Q := w1 mC_110 d110_5 rfl rfl
theorem d110_6 : decode cX11_alike 6 = .ok (.getfield 10, 3) := by decide +kernel
theorem k110_6 {d : Nat} {l0 l1 l2 l3 : Option PV} {st : List PV} {M : Mem} {Q : Option PV → Mem → Prop} {r : Nat} (hk : mK M r = 11) : WP d 110 6 [l0, l1, l2, l3] (vr r :: st) M Q = WP d 110 9 [l0, l1, l2, l3] (vr (mR M r 0) :: st) M Q := w_getr mC_110 d110_6 fE_11_10 rfl (by rw [hk]; rfl)
theorem d110_9 : decode cX11_alike 9 = .ok (.getfield 187, 3) := by decide +kernel
theorem k110_9 {d : Nat} {l0 l1 l2 l3 : Option PV} {st : List PV} {M : Mem} {Q : Option PV → Mem → Prop} {r : Nat} (hk : mK M r = 4) : WP d 110 9 [l0, l1, l2, l3] (vr r :: st) M Q = WP d 110 12 [l0, l1, l2, l3] (vi (mI M r 8) :: st) M Q := w_get mC_110 d110_9 fE_11_187 rfl (by rw [hk]; rfl)
theorem d110_12 : decode cX11_alike 12 = .ok (.if_icmp .ge 47, 3) := by decide +kernel
theorem k110_12 {d : Nat} {l0 l1 l2 l3 : Option PV} {st : List PV} {M : Mem} {Q : Option PV → Mem → Prop} {x y : Int32} : WP d 110 12 [l0, l1, l2, l3] (vi y :: vi x :: st) M Q = (if y ≤ x then WP d 110 59 [l0, l1, l2, l3] (st) M Q else WP d 110 15 [l0, l1, l2, l3] (st) M Q) := w_ic_ge mC_110 d110_12 (by decide)
theorem d110_15 : decode cX11_alike 15 = .ok (.iload_n 2, 1) := by decide +kernel
theorem k110_15 {d : Nat} {x : Int32} {l0 l1 l3 : Option PV} {st : List PV} {M : Mem} {Q : Option PV → Mem → Prop} : WP d 110 15 [l0, l1, some (vi x), l3] (st) M Q = WP d 110 16 [l0, l1, some (vi x), l3] (vi x :: st) M Q := w1 mC_110 d110_15 rfl rfl
theorem d110_16 : decode cX11_alike 16 = .ok (.iconst 1, 1) := by decide +kernel
theorem k110_16 {d : Nat} {l0 l1 l2 l3 : Option PV} {st : List PV} {M : Mem} {Q : Option PV → Mem → Prop} : WP d 110 16 [l0, l1, l2, l3] (st) M Q = WP d 110 17 [l0, l1, l2, l3] (vi 1 :: st) M Q := w_iconst mC_110 d110_16 (by decide)
theorem d110_17 : decode cX11_alike 17 = .ok (.iadd, 1) := by decide +kernel
theorem k110_17 {d : Nat} {l0 l1 l2 l3 : Option PV} {st : List PV} {M : Mem} {Q : Option PV → Mem → Prop} {x y : Int32} : WP d 110 17 [l0, l1, l2, l3] (vi y :: vi x :: st) M Q = WP d 110 18 [l0, l1, l2, l3] (vi (x + y) :: st) M Q := w1 mC_110 d110_17 rfl rfl
theorem d110_18 : decode cX11_alike 18 = .ok (.istore_n 3, 1) := by decide +kernel
theorem k110_18 {d : Nat} {l0 l1 l2 l3 : Option PV} {st : List PV} {M : Mem} {Q : Option PV → Mem → Prop} {x : Int32} : WP d 110 18 [l0, l1, l2, l3] (vi x :: st) M Q = WP d 110 19 [l0, l1, l2, some (vi x)] (st) M Q := w1 mC_110 d110_18 rfl rfl
theorem d110_19 : decode cX11_alike 19 = .ok (.iload_n 3, 1) := by decide +kernel
theorem k110_19 {d : Nat} {x : Int32} {l0 l1 l2 : Option PV} {st : List PV} {M : Mem} {Q : Option PV → Mem → Prop} : WP d 110 19 [l0, l1, l2, some (vi x)] (st) M Q = WP d 110 20 [l0, l1, l2, some (vi x)] (vi x :: st) M Q := w1 mC_110 d110_19 rfl rfl
theorem d110_20 : decode cX11_alike 20 = .ok (.aload_n 0, 1) := by decide +kernel
theorem k110_20 {d x : Nat} {l1 l2 l3 : Option PV} {st : List PV} {M : Mem} {Q : Option PV → Mem → Prop} : WP d 110 20 [some (vr x), l1, l2, l3] (st) M Q = WP d 110 21 [some (vr x), l1, l2, l3] (vr x :: st) M Q := w1 mC_110 d110_20 rfl rfl
theorem d110_21 : decode cX11_alike 21 = .ok (.getfield 10, 3) := by decide +kernel
theorem k110_21 {d : Nat} {l0 l1 l2 l3 : Option PV} {st : List PV} {M : Mem} {Q : Option PV → Mem → Prop} {r : Nat} (hk : mK M r = 11) : WP d 110 21 [l0, l1, l2, l3] (vr r :: st) M Q = WP d 110 24 [l0, l1, l2, l3] (vr (mR M r 0) :: st) M Q := w_getr mC_110 d110_21 fE_11_10 rfl (by rw [hk]; rfl)
theorem d110_24 : decode cX11_alike 24 = .ok (.getfield 187, 3) := by decide +kernel
theorem k110_24 {d : Nat} {l0 l1 l2 l3 : Option PV} {st : List PV} {M : Mem} {Q : Option PV → Mem → Prop} {r : Nat} (hk : mK M r = 4) : WP d 110 24 [l0, l1, l2, l3] (vr r :: st) M Q = WP d 110 27 [l0, l1, l2, l3] (vi (mI M r 8) :: st) M Q := w_get mC_110 d110_24 fE_11_187 rfl (by rw [hk]; rfl)
theorem d110_27 : decode cX11_alike 27 = .ok (.if_icmp .ge 26, 3) := by decide +kernel
theorem k110_27 {d : Nat} {l0 l1 l2 l3 : Option PV} {st : List PV} {M : Mem} {Q : Option PV → Mem → Prop} {x y : Int32} : WP d 110 27 [l0, l1, l2, l3] (vi y :: vi x :: st) M Q = (if y ≤ x then WP d 110 53 [l0, l1, l2, l3] (st) M Q else WP d 110 30 [l0, l1, l2, l3] (st) M Q) := w_ic_ge mC_110 d110_27 (by decide)
theorem d110_30 : decode cX11_alike 30 = .ok (.iload_n 1, 1) := by decide +kernel
theorem k110_30 {d : Nat} {x : Int32} {l0 l2 l3 : Option PV} {st : List PV} {M : Mem} {Q : Option PV → Mem → Prop} : WP d 110 30 [l0, some (vi x), l2, l3] (st) M Q = WP d 110 31 [l0, some (vi x), l2, l3] (vi x :: st) M Q := w1 mC_110 d110_30 rfl rfl
theorem d110_31 : decode cX11_alike 31 = .ok (.aload_n 0, 1) := by decide +kernel
theorem k110_31 {d x : Nat} {l1 l2 l3 : Option PV} {st : List PV} {M : Mem} {Q : Option PV → Mem → Prop} : WP d 110 31 [some (vr x), l1, l2, l3] (st) M Q = WP d 110 32 [some (vr x), l1, l2, l3] (vr x :: st) M Q := w1 mC_110 d110_31 rfl rfl
theorem d110_32 : decode cX11_alike 32 = .ok (.iload_n 2, 1) := by decide +kernel
theorem k110_32 {d : Nat} {x : Int32} {l0 l1 l3 : Option PV} {st : List PV} {M : Mem} {Q : Option PV → Mem → Prop} : WP d 110 32 [l0, l1, some (vi x), l3] (st) M Q = WP d 110 33 [l0, l1, some (vi x), l3] (vi x :: st) M Q := w1 mC_110 d110_32 rfl rfl
theorem d110_33 : decode cX11_alike 33 = .ok (.iload_n 3, 1) := by decide +kernel
theorem k110_33 {d : Nat} {x : Int32} {l0 l1 l2 : Option PV} {st : List PV} {M : Mem} {Q : Option PV → Mem → Prop} : WP d 110 33 [l0, l1, l2, some (vi x)] (st) M Q = WP d 110 34 [l0, l1, l2, some (vi x)] (vi x :: st) M Q := w1 mC_110 d110_33 rfl rfl
theorem d110_34 : decode cX11_alike 34 = .ok (.invokevirtual 268, 3) := by decide +kernel
theorem k110_34 {d : Nat} {l0 l1 l2 l3 : Option PV} {st : List PV} {M : Mem} {Q : Option PV → Mem → Prop} {a0 a1 : Int32} {r : Nat} (hl : szL st ≤ 8) (hk : mK M r = 11) : WP (d + 1) 110 34 [l0, l1, l2, l3] (vi a1 :: vi a0 :: vr r :: st) M Q = WP d 111 0 [some (vr r), some (vi a0), some (vi a1), none] [] M (fun v M' => WP (d + 1) 110 37 [l0, l1, l2, l3] (psh v st) M' Q) := w_callV mC_110 d110_34 (ci := 11) rfl rfl rfl (Nat.le_of_ble_eq_true rfl) (by decide) rfl hl (Or.inl hk)
theorem d110_37 : decode cX11_alike 37 = .ok (.ifCond .eq 7, 3) := by decide +kernel
theorem k110_37 {d : Nat} {l0 l1 l2 l3 : Option PV} {st : List PV} {M : Mem} {Q : Option PV → Mem → Prop} {x : Int32} : WP d 110 37 [l0, l1, l2, l3] (vi x :: st) M Q = (if x = 0 then WP d 110 44 [l0, l1, l2, l3] (st) M Q else WP d 110 40 [l0, l1, l2, l3] (st) M Q) := w_if_eq mC_110 d110_37 (by decide)
theorem d110_40 : decode cX11_alike 40 = .ok (.iconst 1, 1) := by decide +kernel
theorem k110_40 {d : Nat} {l0 l1 l2 l3 : Option PV} {st : List PV} {M : Mem} {Q : Option PV → Mem → Prop} : WP d 110 40 [l0, l1, l2, l3] (st) M Q = WP d 110 41 [l0, l1, l2, l3] (vi 1 :: st) M Q := w_iconst mC_110 d110_40 (by decide)
theorem d110_41 : decode cX11_alike 41 = .ok (.goto 4, 3) := by decide +kernel
theorem k110_41 {d : Nat} {l0 l1 l2 l3 : Option PV} {st : List PV} {M : Mem} {Q : Option PV → Mem → Prop} : WP d 110 41 [l0, l1, l2, l3] (st) M Q = WP d 110 45 [l0, l1, l2, l3] (st) M Q := w_goto mC_110 d110_41 (by decide)
theorem d110_44 : decode cX11_alike 44 = .ok (.iconst 0, 1) := by decide +kernel
theorem k110_44 {d : Nat} {l0 l1 l2 l3 : Option PV} {st : List PV} {M : Mem} {Q : Option PV → Mem → Prop} : WP d 110 44 [l0, l1, l2, l3] (st) M Q = WP d 110 45 [l0, l1, l2, l3] (vi 0 :: st) M Q := w_iconst mC_110 d110_44 (by decide)
theorem d110_45 : decode cX11_alike 45 = .ok (.iadd, 1) := by decide +kernel
theorem k110_45 {d : Nat} {l0 l1 l2 l3 : Option PV} {st : List PV} {M : Mem} {Q : Option PV → Mem → Prop} {x y : Int32} : WP d 110 45 [l0, l1, l2, l3] (vi y :: vi x :: st) M Q = WP d 110 46 [l0, l1, l2, l3] (vi (x + y) :: st) M Q := w1 mC_110 d110_45 rfl rfl
theorem d110_46 : decode cX11_alike 46 = .ok (.istore_n 1, 1) := by decide +kernel
theorem k110_46 {d : Nat} {l0 l1 l2 l3 : Option PV} {st : List PV} {M : Mem} {Q : Option PV → Mem → Prop} {x : Int32} : WP d 110 46 [l0, l1, l2, l3] (vi x :: st) M Q = WP d 110 47 [l0, some (vi x), l2, l3] (st) M Q := w1 mC_110 d110_46 rfl rfl
theorem d110_47 : decode cX11_alike 47 = .ok (.iinc 3 1, 3) := by decide +kernel
theorem k110_47 {d : Nat} {x : Int32} {l0 l1 l2 : Option PV} {st : List PV} {M : Mem} {Q : Option PV → Mem → Prop} : WP d 110 47 [l0, l1, l2, some (vi x)] (st) M Q = WP d 110 50 [l0, l1, l2, some (vi (x + 1))] (st) M Q := w_iinc mC_110 d110_47 rfl (by decide) rfl
theorem d110_50 : decode cX11_alike 50 = .ok (.goto (-31), 3) := by decide +kernel
theorem k110_50 {d : Nat} {l0 l1 l2 l3 : Option PV} {st : List PV} {M : Mem} {Q : Option PV → Mem → Prop} : WP d 110 50 [l0, l1, l2, l3] (st) M Q = WP d 110 19 [l0, l1, l2, l3] (st) M Q := w_goto mC_110 d110_50 (by decide)
theorem d110_53 : decode cX11_alike 53 = .ok (.iinc 2 1, 3) := by decide +kernel
theorem k110_53 {d : Nat} {x : Int32} {l0 l1 l3 : Option PV} {st : List PV} {M : Mem} {Q : Option PV → Mem → Prop} : WP d 110 53 [l0, l1, some (vi x), l3] (st) M Q = WP d 110 56 [l0, l1, some (vi (x + 1)), l3] (st) M Q := w_iinc mC_110 d110_53 rfl (by decide) rfl
theorem d110_56 : decode cX11_alike 56 = .ok (.goto (-52), 3) := by decide +kernel
theorem k110_56 {d : Nat} {l0 l1 l2 l3 : Option PV} {st : List PV} {M : Mem} {Q : Option PV → Mem → Prop} : WP d 110 56 [l0, l1, l2, l3] (st) M Q = WP d 110 4 [l0, l1, l2, l3] (st) M Q := w_goto mC_110 d110_56 (by decide)
theorem d110_59 : decode cX11_alike 59 = .ok (.iload_n 1, 1) := by decide +kernel
theorem k110_59 {d : Nat} {x : Int32} {l0 l2 l3 : Option PV} {st : List PV} {M : Mem} {Q : Option PV → Mem → Prop} : WP d 110 59 [l0, some (vi x), l2, l3] (st) M Q = WP d 110 60 [l0, some (vi x), l2, l3] (vi x :: st) M Q := w1 mC_110 d110_59 rfl rfl
theorem d110_60 : decode cX11_alike 60 = .ok (.ireturn, 1) := by decide +kernel
theorem k110_60 {d : Nat} {l0 l1 l2 l3 : Option PV} {M : Mem} {Q : Option PV → Mem → Prop} {x : Int32} : WP d 110 60 [l0, l1, l2, l3] ([vi x]) M Q = Q (some (vi x)) M := w_iret mC_110 d110_60 rfl
theorem d111_0 : decode cX11_holdAsMuch 0 = .ok (.aload_n 0, 1) := by decide +kernel
theorem k111_0 {d x : Nat} {l1 l2 l3 : Option PV} {st : List PV} {M : Mem} {Q : Option PV → Mem → Prop} : WP d 111 0 [some (vr x), l1, l2, l3] (st) M Q = WP d 111 1 [some (vr x), l1, l2, l3] (vr x :: st) M Q := w1 mC_111 d111_0 rfl rfl
theorem d111_1 : decode cX11_holdAsMuch 1 = .ok (.getfield 16, 3) := by decide +kernel
theorem k111_1 {d : Nat} {l0 l1 l2 l3 : Option PV} {st : List PV} {M : Mem} {Q : Option PV → Mem → Prop} {r : Nat} (hk : mK M r = 11) : WP d 111 1 [l0, l1, l2, l3] (vr r :: st) M Q = WP d 111 4 [l0, l1, l2, l3] (vr (mR M r 1) :: st) M Q := w_getr mC_111 d111_1 fE_11_16 rfl (by rw [hk]; rfl)
theorem d111_4 : decode cX11_holdAsMuch 4 = .ok (.aload_n 0, 1) := by decide +kernel
theorem k111_4 {d x : Nat} {l1 l2 l3 : Option PV} {st : List PV} {M : Mem} {Q : Option PV → Mem → Prop} : WP d 111 4 [some (vr x), l1, l2, l3] (st) M Q = WP d 111 5 [some (vr x), l1, l2, l3] (vr x :: st) M Q := w1 mC_111 d111_4 rfl rfl
theorem d111_5 : decode cX11_holdAsMuch 5 = .ok (.getfield 10, 3) := by decide +kernel
theorem k111_5 {d : Nat} {l0 l1 l2 l3 : Option PV} {st : List PV} {M : Mem} {Q : Option PV → Mem → Prop} {r : Nat} (hk : mK M r = 11) : WP d 111 5 [l0, l1, l2, l3] (vr r :: st) M Q = WP d 111 8 [l0, l1, l2, l3] (vr (mR M r 0) :: st) M Q := w_getr mC_111 d111_5 fE_11_10 rfl (by rw [hk]; rfl)
theorem d111_8 : decode cX11_holdAsMuch 8 = .ok (.invokevirtual 151, 3) := by decide +kernel
theorem k111_8 {d : Nat} {l0 l1 l2 l3 : Option PV} {st : List PV} {M : Mem} {Q : Option PV → Mem → Prop} {a0 : Nat} {r : Nat} (hl : szL st ≤ 8) (hk : mK M r = 4) : WP (d + 1) 111 8 [l0, l1, l2, l3] (vr a0 :: vr r :: st) M Q = WP d 31 0 [some (vr r), some (vr a0)] [] M (fun v M' => WP (d + 1) 111 11 [l0, l1, l2, l3] (psh v st) M' Q) := w_callV mC_111 d111_8 (ci := 4) rfl rfl rfl (Nat.le_of_ble_eq_true rfl) (by decide) rfl hl (Or.inl hk)
theorem d111_11 : decode cX11_holdAsMuch 11 = .ok (.iconst 0, 1) := by decide +kernel
theorem k111_11 {d : Nat} {l0 l1 l2 l3 : Option PV} {st : List PV} {M : Mem} {Q : Option PV → Mem → Prop} : WP d 111 11 [l0, l1, l2, l3] (st) M Q = WP d 111 12 [l0, l1, l2, l3] (vi 0 :: st) M Q := w_iconst mC_111 d111_11 (by decide)
theorem d111_12 : decode cX11_holdAsMuch 12 = .ok (.istore_n 3, 1) := by decide +kernel
theorem k111_12 {d : Nat} {l0 l1 l2 l3 : Option PV} {st : List PV} {M : Mem} {Q : Option PV → Mem → Prop} {x : Int32} : WP d 111 12 [l0, l1, l2, l3] (vi x :: st) M Q = WP d 111 13 [l0, l1, l2, some (vi x)] (st) M Q := w1 mC_111 d111_12 rfl rfl
theorem d111_13 : decode cX11_holdAsMuch 13 = .ok (.iload_n 3, 1) := by decide +kernel
theorem k111_13 {d : Nat} {x : Int32} {l0 l1 l2 : Option PV} {st : List PV} {M : Mem} {Q : Option PV → Mem → Prop} : WP d 111 13 [l0, l1, l2, some (vi x)] (st) M Q = WP d 111 14 [l0, l1, l2, some (vi x)] (vi x :: st) M Q := w1 mC_111 d111_13 rfl rfl
theorem d111_14 : decode cX11_holdAsMuch 14 = .ok (.bipush 12, 2) := by decide +kernel
theorem k111_14 {d : Nat} {l0 l1 l2 l3 : Option PV} {st : List PV} {M : Mem} {Q : Option PV → Mem → Prop} : WP d 111 14 [l0, l1, l2, l3] (st) M Q = WP d 111 16 [l0, l1, l2, l3] (vi 12 :: st) M Q := w_bipush mC_111 d111_14 (by decide)
theorem d111_16 : decode cX11_holdAsMuch 16 = .ok (.if_icmp .ge 65, 3) := by decide +kernel
theorem k111_16 {d : Nat} {l0 l1 l2 l3 : Option PV} {st : List PV} {M : Mem} {Q : Option PV → Mem → Prop} {x y : Int32} : WP d 111 16 [l0, l1, l2, l3] (vi y :: vi x :: st) M Q = (if y ≤ x then WP d 111 81 [l0, l1, l2, l3] (st) M Q else WP d 111 19 [l0, l1, l2, l3] (st) M Q) := w_ic_ge mC_111 d111_16 (by decide)
theorem d111_19 : decode cX11_holdAsMuch 19 = .ok (.aload_n 0, 1) := by decide +kernel
theorem k111_19 {d x : Nat} {l1 l2 l3 : Option PV} {st : List PV} {M : Mem} {Q : Option PV → Mem → Prop} : WP d 111 19 [some (vr x), l1, l2, l3] (st) M Q = WP d 111 20 [some (vr x), l1, l2, l3] (vr x :: st) M Q := w1 mC_111 d111_19 rfl rfl
theorem d111_20 : decode cX11_holdAsMuch 20 = .ok (.getfield 16, 3) := by decide +kernel
theorem k111_20 {d : Nat} {l0 l1 l2 l3 : Option PV} {st : List PV} {M : Mem} {Q : Option PV → Mem → Prop} {r : Nat} (hk : mK M r = 11) : WP d 111 20 [l0, l1, l2, l3] (vr r :: st) M Q = WP d 111 23 [l0, l1, l2, l3] (vr (mR M r 1) :: st) M Q := w_getr mC_111 d111_20 fE_11_16 rfl (by rw [hk]; rfl)
theorem d111_23 : decode cX11_holdAsMuch 23 = .ok (.getfield 139, 3) := by decide +kernel
theorem k111_23 {d : Nat} {l0 l1 l2 l3 : Option PV} {st : List PV} {M : Mem} {Q : Option PV → Mem → Prop} {r : Nat} (hk : mK M r = 4) : WP d 111 23 [l0, l1, l2, l3] (vr r :: st) M Q = WP d 111 26 [l0, l1, l2, l3] (vr (mR M r 5) :: st) M Q := w_getr mC_111 d111_23 fE_11_139 rfl (by rw [hk]; rfl)
theorem d111_26 : decode cX11_holdAsMuch 26 = .ok (.iload_n 1, 1) := by decide +kernel
theorem k111_26 {d : Nat} {x : Int32} {l0 l2 l3 : Option PV} {st : List PV} {M : Mem} {Q : Option PV → Mem → Prop} : WP d 111 26 [l0, some (vi x), l2, l3] (st) M Q = WP d 111 27 [l0, some (vi x), l2, l3] (vi x :: st) M Q := w1 mC_111 d111_26 rfl rfl
theorem d111_27 : decode cX11_holdAsMuch 27 = .ok (.iaload, 1) := by decide +kernel
theorem k111_27 {d : Nat} {l0 l1 l2 l3 : Option PV} {st : List PV} {M : Mem} {Q : Option PV → Mem → Prop} {r : Nat} {j : Int32} (hk : mK M r = 13) (hj : inb j (mN M r)) (_h1 : r ≠ 1) : WP d 111 27 [l0, l1, l2, l3] (vi j :: vr r :: st) M Q = WP d 111 28 [l0, l1, l2, l3] (vi (mI M r (ix j)) :: st) M Q := w_iald mC_111 d111_27 hk hj
theorem d111_28 : decode cX11_holdAsMuch 28 = .ok (.aload_n 0, 1) := by decide +kernel
theorem k111_28 {d x : Nat} {l1 l2 l3 : Option PV} {st : List PV} {M : Mem} {Q : Option PV → Mem → Prop} : WP d 111 28 [some (vr x), l1, l2, l3] (st) M Q = WP d 111 29 [some (vr x), l1, l2, l3] (vr x :: st) M Q := w1 mC_111 d111_28 rfl rfl
theorem d111_29 : decode cX11_holdAsMuch 29 = .ok (.getfield 16, 3) := by decide +kernel
theorem k111_29 {d : Nat} {l0 l1 l2 l3 : Option PV} {st : List PV} {M : Mem} {Q : Option PV → Mem → Prop} {r : Nat} (hk : mK M r = 11) : WP d 111 29 [l0, l1, l2, l3] (vr r :: st) M Q = WP d 111 32 [l0, l1, l2, l3] (vr (mR M r 1) :: st) M Q := w_getr mC_111 d111_29 fE_11_16 rfl (by rw [hk]; rfl)
theorem d111_32 : decode cX11_holdAsMuch 32 = .ok (.getfield 139, 3) := by decide +kernel
theorem k111_32 {d : Nat} {l0 l1 l2 l3 : Option PV} {st : List PV} {M : Mem} {Q : Option PV → Mem → Prop} {r : Nat} (hk : mK M r = 4) : WP d 111 32 [l0, l1, l2, l3] (vr r :: st) M Q = WP d 111 35 [l0, l1, l2, l3] (vr (mR M r 5) :: st) M Q := w_getr mC_111 d111_32 fE_11_139 rfl (by rw [hk]; rfl)
theorem d111_35 : decode cX11_holdAsMuch 35 = .ok (.iload_n 2, 1) := by decide +kernel
theorem k111_35 {d : Nat} {x : Int32} {l0 l1 l3 : Option PV} {st : List PV} {M : Mem} {Q : Option PV → Mem → Prop} : WP d 111 35 [l0, l1, some (vi x), l3] (st) M Q = WP d 111 36 [l0, l1, some (vi x), l3] (vi x :: st) M Q := w1 mC_111 d111_35 rfl rfl
theorem d111_36 : decode cX11_holdAsMuch 36 = .ok (.iaload, 1) := by decide +kernel
theorem k111_36 {d : Nat} {l0 l1 l2 l3 : Option PV} {st : List PV} {M : Mem} {Q : Option PV → Mem → Prop} {r : Nat} {j : Int32} (hk : mK M r = 13) (hj : inb j (mN M r)) (_h1 : r ≠ 1) : WP d 111 36 [l0, l1, l2, l3] (vi j :: vr r :: st) M Q = WP d 111 37 [l0, l1, l2, l3] (vi (mI M r (ix j)) :: st) M Q := w_iald mC_111 d111_36 hk hj
theorem d111_37 : decode cX11_holdAsMuch 37 = .ok (.if_icmp .eq 5, 3) := by decide +kernel
theorem k111_37 {d : Nat} {l0 l1 l2 l3 : Option PV} {st : List PV} {M : Mem} {Q : Option PV → Mem → Prop} {x y : Int32} : WP d 111 37 [l0, l1, l2, l3] (vi y :: vi x :: st) M Q = (if x = y then WP d 111 42 [l0, l1, l2, l3] (st) M Q else WP d 111 40 [l0, l1, l2, l3] (st) M Q) := w_ic_eq mC_111 d111_37 (by decide)
theorem d111_40 : decode cX11_holdAsMuch 40 = .ok (.iconst 0, 1) := by decide +kernel
theorem k111_40 {d : Nat} {l0 l1 l2 l3 : Option PV} {st : List PV} {M : Mem} {Q : Option PV → Mem → Prop} : WP d 111 40 [l0, l1, l2, l3] (st) M Q = WP d 111 41 [l0, l1, l2, l3] (vi 0 :: st) M Q := w_iconst mC_111 d111_40 (by decide)
theorem d111_41 : decode cX11_holdAsMuch 41 = .ok (.ireturn, 1) := by decide +kernel
theorem k111_41 {d : Nat} {l0 l1 l2 l3 : Option PV} {M : Mem} {Q : Option PV → Mem → Prop} {x : Int32} (hx : x = 0 ∨ x = 1) : WP d 111 41 [l0, l1, l2, l3] ([vi x]) M Q = Q (some (vi x)) M := w_zret mC_111 d111_41 rfl hx
theorem d111_42 : decode cX11_holdAsMuch 42 = .ok (.aload_n 0, 1) := by decide +kernel
theorem k111_42 {d x : Nat} {l1 l2 l3 : Option PV} {st : List PV} {M : Mem} {Q : Option PV → Mem → Prop} : WP d 111 42 [some (vr x), l1, l2, l3] (st) M Q = WP d 111 43 [some (vr x), l1, l2, l3] (vr x :: st) M Q := w1 mC_111 d111_42 rfl rfl
theorem d111_43 : decode cX11_holdAsMuch 43 = .ok (.getfield 16, 3) := by decide +kernel
theorem k111_43 {d : Nat} {l0 l1 l2 l3 : Option PV} {st : List PV} {M : Mem} {Q : Option PV → Mem → Prop} {r : Nat} (hk : mK M r = 11) : WP d 111 43 [l0, l1, l2, l3] (vr r :: st) M Q = WP d 111 46 [l0, l1, l2, l3] (vr (mR M r 1) :: st) M Q := w_getr mC_111 d111_43 fE_11_16 rfl (by rw [hk]; rfl)
theorem d111_46 : decode cX11_holdAsMuch 46 = .ok (.iload_n 1, 1) := by decide +kernel
theorem k111_46 {d : Nat} {x : Int32} {l0 l2 l3 : Option PV} {st : List PV} {M : Mem} {Q : Option PV → Mem → Prop} : WP d 111 46 [l0, some (vi x), l2, l3] (st) M Q = WP d 111 47 [l0, some (vi x), l2, l3] (vi x :: st) M Q := w1 mC_111 d111_46 rfl rfl
theorem d111_47 : decode cX11_holdAsMuch 47 = .ok (.aload_n 0, 1) := by decide +kernel
theorem k111_47 {d x : Nat} {l1 l2 l3 : Option PV} {st : List PV} {M : Mem} {Q : Option PV → Mem → Prop} : WP d 111 47 [some (vr x), l1, l2, l3] (st) M Q = WP d 111 48 [some (vr x), l1, l2, l3] (vr x :: st) M Q := w1 mC_111 d111_47 rfl rfl
theorem d111_48 : decode cX11_holdAsMuch 48 = .ok (.getfield 25, 3) := by decide +kernel
theorem k111_48 {d : Nat} {l0 l1 l2 l3 : Option PV} {st : List PV} {M : Mem} {Q : Option PV → Mem → Prop} {r : Nat} (hk : mK M r = 11) : WP d 111 48 [l0, l1, l2, l3] (vr r :: st) M Q = WP d 111 51 [l0, l1, l2, l3] (vr (mR M r 4) :: st) M Q := w_getr mC_111 d111_48 fE_11_25 rfl (by rw [hk]; rfl)
theorem d111_51 : decode cX11_holdAsMuch 51 = .ok (.invokevirtual 181, 3) := by decide +kernel
theorem k111_51 {d : Nat} {l0 l1 l2 l3 : Option PV} {st : List PV} {M : Mem} {Q : Option PV → Mem → Prop} {a0 : Int32} {a1 : Nat} {r : Nat} (hl : szL st ≤ 8) (hk : mK M r = 4) : WP (d + 1) 111 51 [l0, l1, l2, l3] (vr a1 :: vi a0 :: vr r :: st) M Q = WP d 41 0 [some (vr r), some (vi a0), some (vr a1), none, none, none] [] M (fun v M' => WP (d + 1) 111 54 [l0, l1, l2, l3] (psh v st) M' Q) := w_callV mC_111 d111_51 (ci := 4) rfl rfl rfl (Nat.le_of_ble_eq_true rfl) (by decide) rfl hl (Or.inl hk)
theorem d111_54 : decode cX11_holdAsMuch 54 = .ok (.pop, 1) := by decide +kernel
theorem k111_54 {d : Nat} {l0 l1 l2 l3 : Option PV} {st : List PV} {M : Mem} {Q : Option PV → Mem → Prop} {x : Nat} : WP d 111 54 [l0, l1, l2, l3] (vr x :: st) M Q = WP d 111 55 [l0, l1, l2, l3] (st) M Q := w1 mC_111 d111_54 rfl rfl
theorem k111_54i {d : Nat} {l0 l1 l2 l3 : Option PV} {st : List PV} {M : Mem} {Q : Option PV → Mem → Prop} {x : Int32} : WP d 111 54 [l0, l1, l2, l3] (vi x :: st) M Q = WP d 111 55 [l0, l1, l2, l3] (st) M Q := w1 mC_111 d111_54 rfl rfl
theorem d111_55 : decode cX11_holdAsMuch 55 = .ok (.aload_n 0, 1) := by decide +kernel
theorem k111_55 {d x : Nat} {l1 l2 l3 : Option PV} {st : List PV} {M : Mem} {Q : Option PV → Mem → Prop} : WP d 111 55 [some (vr x), l1, l2, l3] (st) M Q = WP d 111 56 [some (vr x), l1, l2, l3] (vr x :: st) M Q := w1 mC_111 d111_55 rfl rfl
theorem d111_56 : decode cX11_holdAsMuch 56 = .ok (.getfield 16, 3) := by decide +kernel
theorem k111_56 {d : Nat} {l0 l1 l2 l3 : Option PV} {st : List PV} {M : Mem} {Q : Option PV → Mem → Prop} {r : Nat} (hk : mK M r = 11) : WP d 111 56 [l0, l1, l2, l3] (vr r :: st) M Q = WP d 111 59 [l0, l1, l2, l3] (vr (mR M r 1) :: st) M Q := w_getr mC_111 d111_56 fE_11_16 rfl (by rw [hk]; rfl)
theorem d111_59 : decode cX11_holdAsMuch 59 = .ok (.iload_n 2, 1) := by decide +kernel
theorem k111_59 {d : Nat} {x : Int32} {l0 l1 l3 : Option PV} {st : List PV} {M : Mem} {Q : Option PV → Mem → Prop} : WP d 111 59 [l0, l1, some (vi x), l3] (st) M Q = WP d 111 60 [l0, l1, some (vi x), l3] (vi x :: st) M Q := w1 mC_111 d111_59 rfl rfl
theorem d111_60 : decode cX11_holdAsMuch 60 = .ok (.aload_n 0, 1) := by decide +kernel
theorem k111_60 {d x : Nat} {l1 l2 l3 : Option PV} {st : List PV} {M : Mem} {Q : Option PV → Mem → Prop} : WP d 111 60 [some (vr x), l1, l2, l3] (st) M Q = WP d 111 61 [some (vr x), l1, l2, l3] (vr x :: st) M Q := w1 mC_111 d111_60 rfl rfl
theorem d111_61 : decode cX11_holdAsMuch 61 = .ok (.getfield 25, 3) := by decide +kernel
theorem k111_61 {d : Nat} {l0 l1 l2 l3 : Option PV} {st : List PV} {M : Mem} {Q : Option PV → Mem → Prop} {r : Nat} (hk : mK M r = 11) : WP d 111 61 [l0, l1, l2, l3] (vr r :: st) M Q = WP d 111 64 [l0, l1, l2, l3] (vr (mR M r 4) :: st) M Q := w_getr mC_111 d111_61 fE_11_25 rfl (by rw [hk]; rfl)
theorem d111_64 : decode cX11_holdAsMuch 64 = .ok (.invokevirtual 181, 3) := by decide +kernel
theorem k111_64 {d : Nat} {l0 l1 l2 l3 : Option PV} {st : List PV} {M : Mem} {Q : Option PV → Mem → Prop} {a0 : Int32} {a1 : Nat} {r : Nat} (hl : szL st ≤ 8) (hk : mK M r = 4) : WP (d + 1) 111 64 [l0, l1, l2, l3] (vr a1 :: vi a0 :: vr r :: st) M Q = WP d 41 0 [some (vr r), some (vi a0), some (vr a1), none, none, none] [] M (fun v M' => WP (d + 1) 111 67 [l0, l1, l2, l3] (psh v st) M' Q) := w_callV mC_111 d111_64 (ci := 4) rfl rfl rfl (Nat.le_of_ble_eq_true rfl) (by decide) rfl hl (Or.inl hk)
theorem d111_67 : decode cX11_holdAsMuch 67 = .ok (.pop, 1) := by decide +kernel
theorem k111_67 {d : Nat} {l0 l1 l2 l3 : Option PV} {st : List PV} {M : Mem} {Q : Option PV → Mem → Prop} {x : Nat} : WP d 111 67 [l0, l1, l2, l3] (vr x :: st) M Q = WP d 111 68 [l0, l1, l2, l3] (st) M Q := w1 mC_111 d111_67 rfl rfl
theorem k111_67i {d : Nat} {l0 l1 l2 l3 : Option PV} {st : List PV} {M : Mem} {Q : Option PV → Mem → Prop} {x : Int32} : WP d 111 67 [l0, l1, l2, l3] (vi x :: st) M Q = WP d 111 68 [l0, l1, l2, l3] (st) M Q := w1 mC_111 d111_67 rfl rfl
theorem d111_68 : decode cX11_holdAsMuch 68 = .ok (.aload_n 0, 1) := by decide +kernel
theorem k111_68 {d x : Nat} {l1 l2 l3 : Option PV} {st : List PV} {M : Mem} {Q : Option PV → Mem → Prop} : WP d 111 68 [some (vr x), l1, l2, l3] (st) M Q = WP d 111 69 [some (vr x), l1, l2, l3] (vr x :: st) M Q := w1 mC_111 d111_68 rfl rfl
theorem d111_69 : decode cX11_holdAsMuch 69 = .ok (.getfield 16, 3) := by decide +kernel
theorem k111_69 {d : Nat} {l0 l1 l2 l3 : Option PV} {st : List PV} {M : Mem} {Q : Option PV → Mem → Prop} {r : Nat} (hk : mK M r = 11) : WP d 111 69 [l0, l1, l2, l3] (vr r :: st) M Q = WP d 111 72 [l0, l1, l2, l3] (vr (mR M r 1) :: st) M Q := w_getr mC_111 d111_69 fE_11_16 rfl (by rw [hk]; rfl)
theorem d111_72 : decode cX11_holdAsMuch 72 = .ok (.invokevirtual 184, 3) := by decide +kernel
theorem k111_72 {d : Nat} {l0 l1 l2 l3 : Option PV} {st : List PV} {M : Mem} {Q : Option PV → Mem → Prop} {r : Nat} (hl : szL st ≤ 8) (hk : mK M r = 4) : WP (d + 1) 111 72 [l0, l1, l2, l3] (vr r :: st) M Q = WP d 43 0 [some (vr r)] [] M (fun v M' => WP (d + 1) 111 75 [l0, l1, l2, l3] (psh v st) M' Q) := w_callV mC_111 d111_72 (ci := 4) rfl rfl rfl (Nat.le_of_ble_eq_true rfl) (by decide) rfl hl (Or.inl hk)
theorem d111_75 : decode cX11_holdAsMuch 75 = .ok (.iinc 3 1, 3) := by decide +kernel
theorem k111_75 {d : Nat} {x : Int32} {l0 l1 l2 : Option PV} {st : List PV} {M : Mem} {Q : Option PV → Mem → Prop} : WP d 111 75 [l0, l1, l2, some (vi x)] (st) M Q = WP d 111 78 [l0, l1, l2, some (vi (x + 1))] (st) M Q := w_iinc mC_111 d111_75 rfl (by decide) rfl
theorem d111_78 : decode cX11_holdAsMuch 78 = .ok (.goto (-65), 3) := by decide +kernel
theorem k111_78 {d : Nat} {l0 l1 l2 l3 : Option PV} {st : List PV} {M : Mem} {Q : Option PV → Mem → Prop} : WP d 111 78 [l0, l1, l2, l3] (st) M Q = WP d 111 13 [l0, l1, l2, l3] (st) M Q := w_goto mC_111 d111_78 (by decide)
theorem d111_81 : decode cX11_holdAsMuch 81 = .ok (.aload_n 0, 1) := by decide +kernel
theorem k111_81 {d x : Nat} {l1 l2 l3 : Option PV} {st : List PV} {M : Mem} {Q : Option PV → Mem → Prop} : WP d 111 81 [some (vr x), l1, l2, l3] (st) M Q = WP d 111 82 [some (vr x), l1, l2, l3] (vr x :: st) M Q := w1 mC_111 d111_81 rfl rfl
theorem d111_82 : decode cX11_holdAsMuch 82 = .ok (.getfield 16, 3) := by decide +kernel
theorem k111_82 {d : Nat} {l0 l1 l2 l3 : Option PV} {st : List PV} {M : Mem} {Q : Option PV → Mem → Prop} {r : Nat} (hk : mK M r = 11) : WP d 111 82 [l0, l1, l2, l3] (vr r :: st) M Q = WP d 111 85 [l0, l1, l2, l3] (vr (mR M r 1) :: st) M Q := w_getr mC_111 d111_82 fE_11_16 rfl (by rw [hk]; rfl)
theorem d111_85 : decode cX11_holdAsMuch 85 = .ok (.getfield 139, 3) := by decide +kernel
theorem k111_85 {d : Nat} {l0 l1 l2 l3 : Option PV} {st : List PV} {M : Mem} {Q : Option PV → Mem → Prop} {r : Nat} (hk : mK M r = 4) : WP d 111 85 [l0, l1, l2, l3] (vr r :: st) M Q = WP d 111 88 [l0, l1, l2, l3] (vr (mR M r 5) :: st) M Q := w_getr mC_111 d111_85 fE_11_139 rfl (by rw [hk]; rfl)
theorem d111_88 : decode cX11_holdAsMuch 88 = .ok (.iload_n 1, 1) := by decide +kernel
theorem k111_88 {d : Nat} {x : Int32} {l0 l2 l3 : Option PV} {st : List PV} {M : Mem} {Q : Option PV → Mem → Prop} : WP d 111 88 [l0, some (vi x), l2, l3] (st) M Q = WP d 111 89 [l0, some (vi x), l2, l3] (vi x :: st) M Q := w1 mC_111 d111_88 rfl rfl
theorem d111_89 : decode cX11_holdAsMuch 89 = .ok (.iaload, 1) := by decide +kernel
theorem k111_89 {d : Nat} {l0 l1 l2 l3 : Option PV} {st : List PV} {M : Mem} {Q : Option PV → Mem → Prop} {r : Nat} {j : Int32} (hk : mK M r = 13) (hj : inb j (mN M r)) (_h1 : r ≠ 1) : WP d 111 89 [l0, l1, l2, l3] (vi j :: vr r :: st) M Q = WP d 111 90 [l0, l1, l2, l3] (vi (mI M r (ix j)) :: st) M Q := w_iald mC_111 d111_89 hk hj
theorem d111_90 : decode cX11_holdAsMuch 90 = .ok (.aload_n 0, 1) := by decide +kernel
theorem k111_90 {d x : Nat} {l1 l2 l3 : Option PV} {st : List PV} {M : Mem} {Q : Option PV → Mem → Prop} : WP d 111 90 [some (vr x), l1, l2, l3] (st) M Q = WP d 111 91 [some (vr x), l1, l2, l3] (vr x :: st) M Q := w1 mC_111 d111_90 rfl rfl
theorem d111_91 : decode cX11_holdAsMuch 91 = .ok (.getfield 16, 3) := by decide +kernel
theorem k111_91 {d : Nat} {l0 l1 l2 l3 : Option PV} {st : List PV} {M : Mem} {Q : Option PV → Mem → Prop} {r : Nat} (hk : mK M r = 11) : WP d 111 91 [l0, l1, l2, l3] (vr r :: st) M Q = WP d 111 94 [l0, l1, l2, l3] (vr (mR M r 1) :: st) M Q := w_getr mC_111 d111_91 fE_11_16 rfl (by rw [hk]; rfl)
theorem d111_94 : decode cX11_holdAsMuch 94 = .ok (.getfield 139, 3) := by decide +kernel
theorem k111_94 {d : Nat} {l0 l1 l2 l3 : Option PV} {st : List PV} {M : Mem} {Q : Option PV → Mem → Prop} {r : Nat} (hk : mK M r = 4) : WP d 111 94 [l0, l1, l2, l3] (vr r :: st) M Q = WP d 111 97 [l0, l1, l2, l3] (vr (mR M r 5) :: st) M Q := w_getr mC_111 d111_94 fE_11_139 rfl (by rw [hk]; rfl)
theorem d111_97 : decode cX11_holdAsMuch 97 = .ok (.iload_n 2, 1) := by decide +kernel
theorem k111_97 {d : Nat} {x : Int32} {l0 l1 l3 : Option PV} {st : List PV} {M : Mem} {Q : Option PV → Mem → Prop} : WP d 111 97 [l0, l1, some (vi x), l3] (st) M Q = WP d 111 98 [l0, l1, some (vi x), l3] (vi x :: st) M Q := w1 mC_111 d111_97 rfl rfl
theorem d111_98 : decode cX11_holdAsMuch 98 = .ok (.iaload, 1) := by decide +kernel
theorem k111_98 {d : Nat} {l0 l1 l2 l3 : Option PV} {st : List PV} {M : Mem} {Q : Option PV → Mem → Prop} {r : Nat} {j : Int32} (hk : mK M r = 13) (hj : inb j (mN M r)) (_h1 : r ≠ 1) : WP d 111 98 [l0, l1, l2, l3] (vi j :: vr r :: st) M Q = WP d 111 99 [l0, l1, l2, l3] (vi (mI M r (ix j)) :: st) M Q := w_iald mC_111 d111_98 hk hj
theorem d111_99 : decode cX11_holdAsMuch 99 = .ok (.if_icmp .ne 7, 3) := by decide +kernel
theorem k111_99 {d : Nat} {l0 l1 l2 l3 : Option PV} {st : List PV} {M : Mem} {Q : Option PV → Mem → Prop} {x y : Int32} : WP d 111 99 [l0, l1, l2, l3] (vi y :: vi x :: st) M Q = (if x = y then WP d 111 102 [l0, l1, l2, l3] (st) M Q else WP d 111 106 [l0, l1, l2, l3] (st) M Q) := w_ic_ne mC_111 d111_99 (by decide)
theorem d111_102 : decode cX11_holdAsMuch 102 = .ok (.iconst 1, 1) := by decide +kernel
theorem k111_102 {d : Nat} {l0 l1 l2 l3 : Option PV} {st : List PV} {M : Mem} {Q : Option PV → Mem → Prop} : WP d 111 102 [l0, l1, l2, l3] (st) M Q = WP d 111 103 [l0, l1, l2, l3] (vi 1 :: st) M Q := w_iconst mC_111 d111_102 (by decide)
theorem d111_103 : decode cX11_holdAsMuch 103 = .ok (.goto 4, 3) := by decide +kernel
theorem k111_103 {d : Nat} {l0 l1 l2 l3 : Option PV} {st : List PV} {M : Mem} {Q : Option PV → Mem → Prop} : WP d 111 103 [l0, l1, l2, l3] (st) M Q = WP d 111 107 [l0, l1, l2, l3] (st) M Q := w_goto mC_111 d111_103 (by decide)
theorem d111_106 : decode cX11_holdAsMuch 106 = .ok (.iconst 0, 1) := by decide +kernel
theorem k111_106 {d : Nat} {l0 l1 l2 l3 : Option PV} {st : List PV} {M : Mem} {Q : Option PV → Mem → Prop} : WP d 111 106 [l0, l1, l2, l3] (st) M Q = WP d 111 107 [l0, l1, l2, l3] (vi 0 :: st) M Q := w_iconst mC_111 d111_106 (by decide)
theorem d111_107 : decode cX11_holdAsMuch 107 = .ok (.ireturn, 1) := by decide +kernel
theorem k111_107 {d : Nat} {l0 l1 l2 l3 : Option PV} {M : Mem} {Q : Option PV → Mem → Prop} {x : Int32} (hx : x = 0 ∨ x = 1) : WP d 111 107 [l0, l1, l2, l3] ([vi x]) M Q = Q (some (vi x)) M := w_zret mC_111 d111_107 rfl hx
theorem d112_0 : decode cX11_ring 0 = .ok (.aload_n 0, 1) := by decide +kernel
theorem k112_0 {d x : Nat} {l1 l2 l3 l4 l5 : Option PV} {st : List PV} {M : Mem} {Q : Option PV → Mem → Prop} : WP d 112 0 [some (vr x), l1, l2, l3, l4, l5] (st) M Q = WP d 112 1 [some (vr x), l1, l2, l3, l4, l5] (vr x :: st) M Q := w1 mC_112 d112_0 rfl rfl
theorem d112_1 : decode cX11_ring 1 = .ok (.getfield 10, 3) := by decide +kernel
theorem k112_1 {d : Nat} {l0 l1 l2 l3 l4 l5 : Option PV} {st : List PV} {M : Mem} {Q : Option PV → Mem → Prop} {r : Nat} (hk : mK M r = 11) : WP d 112 1 [l0, l1, l2, l3, l4, l5] (vr r :: st) M Q = WP d 112 4 [l0, l1, l2, l3, l4, l5] (vr (mR M r 0) :: st) M Q := w_getr mC_112 d112_1 fE_11_10 rfl (by rw [hk]; rfl)
theorem d112_4 : decode cX11_ring 4 = .ok (.iload_n 1, 1) := by decide +kernel
theorem k112_4 {d : Nat} {x : Int32} {l0 l2 l3 l4 l5 : Option PV} {st : List PV} {M : Mem} {Q : Option PV → Mem → Prop} : WP d 112 4 [l0, some (vi x), l2, l3, l4, l5] (st) M Q = WP d 112 5 [l0, some (vi x), l2, l3, l4, l5] (vi x :: st) M Q := w1 mC_112 d112_4 rfl rfl
theorem d112_5 : decode cX11_ring 5 = .ok (.invokevirtual 117, 3) := by decide +kernel
theorem k112_5 {d : Nat} {l0 l1 l2 l3 l4 l5 : Option PV} {st : List PV} {M : Mem} {Q : Option PV → Mem → Prop} {a0 : Int32} {r : Nat} (hl : szL st ≤ 8) (hk : mK M r = 4) : WP (d + 1) 112 5 [l0, l1, l2, l3, l4, l5] (vi a0 :: vr r :: st) M Q = WP d 24 0 [some (vr r), some (vi a0)] [] M (fun v M' => WP (d + 1) 112 8 [l0, l1, l2, l3, l4, l5] (psh v st) M' Q) := w_callV mC_112 d112_5 (ci := 4) rfl rfl rfl (Nat.le_of_ble_eq_true rfl) (by decide) rfl hl (Or.inl hk)
theorem d112_8 : decode cX11_ring 8 = .ok (.ifCond .ne 5, 3) := by decide +kernel
theorem k112_8 {d : Nat} {l0 l1 l2 l3 l4 l5 : Option PV} {st : List PV} {M : Mem} {Q : Option PV → Mem → Prop} {x : Int32} : WP d 112 8 [l0, l1, l2, l3, l4, l5] (vi x :: st) M Q = (if x = 0 then WP d 112 11 [l0, l1, l2, l3, l4, l5] (st) M Q else WP d 112 13 [l0, l1, l2, l3, l4, l5] (st) M Q) := w_if_ne mC_112 d112_8 (by decide)
theorem d112_11 : decode cX11_ring 11 = .ok (.iconst (-1), 1) := by decide +kernel
theorem k112_11 {d : Nat} {l0 l1 l2 l3 l4 l5 : Option PV} {st : List PV} {M : Mem} {Q : Option PV → Mem → Prop} : WP d 112 11 [l0, l1, l2, l3, l4, l5] (st) M Q = WP d 112 12 [l0, l1, l2, l3, l4, l5] (vi (-1) :: st) M Q := w_iconst mC_112 d112_11 (by decide)
theorem d112_12 : decode cX11_ring 12 = .ok (.ireturn, 1) := by decide +kernel
theorem k112_12 {d : Nat} {l0 l1 l2 l3 l4 l5 : Option PV} {M : Mem} {Q : Option PV → Mem → Prop} {x : Int32} : WP d 112 12 [l0, l1, l2, l3, l4, l5] ([vi x]) M Q = Q (some (vi x)) M := w_iret mC_112 d112_12 rfl
theorem d112_13 : decode cX11_ring 13 = .ok (.aload_n 0, 1) := by decide +kernel
theorem k112_13 {d x : Nat} {l1 l2 l3 l4 l5 : Option PV} {st : List PV} {M : Mem} {Q : Option PV → Mem → Prop} : WP d 112 13 [some (vr x), l1, l2, l3, l4, l5] (st) M Q = WP d 112 14 [some (vr x), l1, l2, l3, l4, l5] (vr x :: st) M Q := w1 mC_112 d112_13 rfl rfl
theorem d112_14 : decode cX11_ring 14 = .ok (.getfield 10, 3) := by decide +kernel
theorem k112_14 {d : Nat} {l0 l1 l2 l3 l4 l5 : Option PV} {st : List PV} {M : Mem} {Q : Option PV → Mem → Prop} {r : Nat} (hk : mK M r = 11) : WP d 112 14 [l0, l1, l2, l3, l4, l5] (vr r :: st) M Q = WP d 112 17 [l0, l1, l2, l3, l4, l5] (vr (mR M r 0) :: st) M Q := w_getr mC_112 d112_14 fE_11_10 rfl (by rw [hk]; rfl)
theorem d112_17 : decode cX11_ring 17 = .ok (.getfield 199, 3) := by decide +kernel
theorem k112_17 {d : Nat} {l0 l1 l2 l3 l4 l5 : Option PV} {st : List PV} {M : Mem} {Q : Option PV → Mem → Prop} {r : Nat} (hk : mK M r = 4) : WP d 112 17 [l0, l1, l2, l3, l4, l5] (vr r :: st) M Q = WP d 112 20 [l0, l1, l2, l3, l4, l5] (vi (mI M r 7) :: st) M Q := w_get mC_112 d112_17 fE_11_199 rfl (by rw [hk]; rfl)
theorem d112_20 : decode cX11_ring 20 = .ok (.iconst 2, 1) := by decide +kernel
theorem k112_20 {d : Nat} {l0 l1 l2 l3 l4 l5 : Option PV} {st : List PV} {M : Mem} {Q : Option PV → Mem → Prop} : WP d 112 20 [l0, l1, l2, l3, l4, l5] (st) M Q = WP d 112 21 [l0, l1, l2, l3, l4, l5] (vi 2 :: st) M Q := w_iconst mC_112 d112_20 (by decide)
theorem d112_21 : decode cX11_ring 21 = .ok (.if_icmp .ge 6, 3) := by decide +kernel
theorem k112_21 {d : Nat} {l0 l1 l2 l3 l4 l5 : Option PV} {st : List PV} {M : Mem} {Q : Option PV → Mem → Prop} {x y : Int32} : WP d 112 21 [l0, l1, l2, l3, l4, l5] (vi y :: vi x :: st) M Q = (if y ≤ x then WP d 112 27 [l0, l1, l2, l3, l4, l5] (st) M Q else WP d 112 24 [l0, l1, l2, l3, l4, l5] (st) M Q) := w_ic_ge mC_112 d112_21 (by decide)
theorem d112_24 : decode cX11_ring 24 = .ok (.bipush (-2), 2) := by decide +kernel
theorem k112_24 {d : Nat} {l0 l1 l2 l3 l4 l5 : Option PV} {st : List PV} {M : Mem} {Q : Option PV → Mem → Prop} : WP d 112 24 [l0, l1, l2, l3, l4, l5] (st) M Q = WP d 112 26 [l0, l1, l2, l3, l4, l5] (vi (-2) :: st) M Q := w_bipush mC_112 d112_24 (by decide)
theorem d112_26 : decode cX11_ring 26 = .ok (.ireturn, 1) := by decide +kernel
theorem k112_26 {d : Nat} {l0 l1 l2 l3 l4 l5 : Option PV} {M : Mem} {Q : Option PV → Mem → Prop} {x : Int32} : WP d 112 26 [l0, l1, l2, l3, l4, l5] ([vi x]) M Q = Q (some (vi x)) M := w_iret mC_112 d112_26 rfl
theorem d112_27 : decode cX11_ring 27 = .ok (.iload_n 1, 1) := by decide +kernel
theorem k112_27 {d : Nat} {x : Int32} {l0 l2 l3 l4 l5 : Option PV} {st : List PV} {M : Mem} {Q : Option PV → Mem → Prop} : WP d 112 27 [l0, some (vi x), l2, l3, l4, l5] (st) M Q = WP d 112 28 [l0, some (vi x), l2, l3, l4, l5] (vi x :: st) M Q := w1 mC_112 d112_27 rfl rfl
theorem d112_28 : decode cX11_ring 28 = .ok (.istore_n 2, 1) := by decide +kernel
theorem k112_28 {d : Nat} {l0 l1 l2 l3 l4 l5 : Option PV} {st : List PV} {M : Mem} {Q : Option PV → Mem → Prop} {x : Int32} : WP d 112 28 [l0, l1, l2, l3, l4, l5] (vi x :: st) M Q = WP d 112 29 [l0, l1, some (vi x), l3, l4, l5] (st) M Q := w1 mC_112 d112_28 rfl rfl
theorem d112_29 : decode cX11_ring 29 = .ok (.iconst 0, 1) := by decide +kernel
theorem k112_29 {d : Nat} {l0 l1 l2 l3 l4 l5 : Option PV} {st : List PV} {M : Mem} {Q : Option PV → Mem → Prop} : WP d 112 29 [l0, l1, l2, l3, l4, l5] (st) M Q = WP d 112 30 [l0, l1, l2, l3, l4, l5] (vi 0 :: st) M Q := w_iconst mC_112 d112_29 (by decide)
theorem d112_30 : decode cX11_ring 30 = .ok (.istore_n 3, 1) := by decide +kernel
theorem k112_30 {d : Nat} {l0 l1 l2 l3 l4 l5 : Option PV} {st : List PV} {M : Mem} {Q : Option PV → Mem → Prop} {x : Int32} : WP d 112 30 [l0, l1, l2, l3, l4, l5] (vi x :: st) M Q = WP d 112 31 [l0, l1, l2, some (vi x), l4, l5] (st) M Q := w1 mC_112 d112_30 rfl rfl
theorem d112_31 : decode cX11_ring 31 = .ok (.iload_n 3, 1) := by decide +kernel
theorem k112_31 {d : Nat} {x : Int32} {l0 l1 l2 l4 l5 : Option PV} {st : List PV} {M : Mem} {Q : Option PV → Mem → Prop} : WP d 112 31 [l0, l1, l2, some (vi x), l4, l5] (st) M Q = WP d 112 32 [l0, l1, l2, some (vi x), l4, l5] (vi x :: st) M Q := w1 mC_112 d112_31 rfl rfl
theorem d112_32 : decode cX11_ring 32 = .ok (.aload_n 0, 1) := by decide +kernel
theorem k112_32 {d x : Nat} {l1 l2 l3 l4 l5 : Option PV} {st : List PV} {M : Mem} {Q : Option PV → Mem → Prop} : WP d 112 32 [some (vr x), l1, l2, l3, l4, l5] (st) M Q = WP d 112 33 [some (vr x), l1, l2, l3, l4, l5] (vr x :: st) M Q := w1 mC_112 d112_32 rfl rfl
theorem d112_33 : decode cX11_ring 33 = .ok (.getfield 10, 3) := by decide +kernel
theorem k112_33 {d : Nat} {l0 l1 l2 l3 l4 l5 : Option PV} {st : List PV} {M : Mem} {Q : Option PV → Mem → Prop} {r : Nat} (hk : mK M r = 11) : WP d 112 33 [l0, l1, l2, l3, l4, l5] (vr r :: st) M Q = WP d 112 36 [l0, l1, l2, l3, l4, l5] (vr (mR M r 0) :: st) M Q := w_getr mC_112 d112_33 fE_11_10 rfl (by rw [hk]; rfl)
theorem d112_36 : decode cX11_ring 36 = .ok (.getfield 199, 3) := by decide +kernel
theorem k112_36 {d : Nat} {l0 l1 l2 l3 l4 l5 : Option PV} {st : List PV} {M : Mem} {Q : Option PV → Mem → Prop} {r : Nat} (hk : mK M r = 4) : WP d 112 36 [l0, l1, l2, l3, l4, l5] (vr r :: st) M Q = WP d 112 39 [l0, l1, l2, l3, l4, l5] (vi (mI M r 7) :: st) M Q := w_get mC_112 d112_36 fE_11_199 rfl (by rw [hk]; rfl)
theorem d112_39 : decode cX11_ring 39 = .ok (.if_icmp .ge 18, 3) := by decide +kernel
theorem k112_39 {d : Nat} {l0 l1 l2 l3 l4 l5 : Option PV} {st : List PV} {M : Mem} {Q : Option PV → Mem → Prop} {x y : Int32} : WP d 112 39 [l0, l1, l2, l3, l4, l5] (vi y :: vi x :: st) M Q = (if y ≤ x then WP d 112 57 [l0, l1, l2, l3, l4, l5] (st) M Q else WP d 112 42 [l0, l1, l2, l3, l4, l5] (st) M Q) := w_ic_ge mC_112 d112_39 (by decide)
theorem d112_42 : decode cX11_ring 42 = .ok (.aload_n 0, 1) := by decide +kernel
theorem k112_42 {d x : Nat} {l1 l2 l3 l4 l5 : Option PV} {st : List PV} {M : Mem} {Q : Option PV → Mem → Prop} : WP d 112 42 [some (vr x), l1, l2, l3, l4, l5] (st) M Q = WP d 112 43 [some (vr x), l1, l2, l3, l4, l5] (vr x :: st) M Q := w1 mC_112 d112_42 rfl rfl
theorem d112_43 : decode cX11_ring 43 = .ok (.getfield 10, 3) := by decide +kernel
theorem k112_43 {d : Nat} {l0 l1 l2 l3 l4 l5 : Option PV} {st : List PV} {M : Mem} {Q : Option PV → Mem → Prop} {r : Nat} (hk : mK M r = 11) : WP d 112 43 [l0, l1, l2, l3, l4, l5] (vr r :: st) M Q = WP d 112 46 [l0, l1, l2, l3, l4, l5] (vr (mR M r 0) :: st) M Q := w_getr mC_112 d112_43 fE_11_10 rfl (by rw [hk]; rfl)
theorem d112_46 : decode cX11_ring 46 = .ok (.iload_n 2, 1) := by decide +kernel
theorem k112_46 {d : Nat} {x : Int32} {l0 l1 l3 l4 l5 : Option PV} {st : List PV} {M : Mem} {Q : Option PV → Mem → Prop} : WP d 112 46 [l0, l1, some (vi x), l3, l4, l5] (st) M Q = WP d 112 47 [l0, l1, some (vi x), l3, l4, l5] (vi x :: st) M Q := w1 mC_112 d112_46 rfl rfl
theorem d112_47 : decode cX11_ring 47 = .ok (.invokevirtual 271, 3) := by decide +kernel
theorem k112_47 {d : Nat} {l0 l1 l2 l3 l4 l5 : Option PV} {st : List PV} {M : Mem} {Q : Option PV → Mem → Prop} {a0 : Int32} {r : Nat} (hl : szL st ≤ 8) (hk : mK M r = 4) : WP (d + 1) 112 47 [l0, l1, l2, l3, l4, l5] (vi a0 :: vr r :: st) M Q = WP d 34 0 [some (vr r), some (vi a0), none, none, none] [] M (fun v M' => WP (d + 1) 112 50 [l0, l1, l2, l3, l4, l5] (psh v st) M' Q) := w_callV mC_112 d112_47 (ci := 4) rfl rfl rfl (Nat.le_of_ble_eq_true rfl) (by decide) rfl hl (Or.inl hk)
theorem d112_50 : decode cX11_ring 50 = .ok (.istore_n 2, 1) := by decide +kernel
theorem k112_50 {d : Nat} {l0 l1 l2 l3 l4 l5 : Option PV} {st : List PV} {M : Mem} {Q : Option PV → Mem → Prop} {x : Int32} : WP d 112 50 [l0, l1, l2, l3, l4, l5] (vi x :: st) M Q = WP d 112 51 [l0, l1, some (vi x), l3, l4, l5] (st) M Q := w1 mC_112 d112_50 rfl rfl
theorem d112_51 : decode cX11_ring 51 = .ok (.iinc 3 1, 3) := by decide +kernel
theorem k112_51 {d : Nat} {x : Int32} {l0 l1 l2 l4 l5 : Option PV} {st : List PV} {M : Mem} {Q : Option PV → Mem → Prop} : WP d 112 51 [l0, l1, l2, some (vi x), l4, l5] (st) M Q = WP d 112 54 [l0, l1, l2, some (vi (x + 1)), l4, l5] (st) M Q := w_iinc mC_112 d112_51 rfl (by decide) rfl
theorem d112_54 : decode cX11_ring 54 = .ok (.goto (-23), 3) := by decide +kernel
theorem k112_54 {d : Nat} {l0 l1 l2 l3 l4 l5 : Option PV} {st : List PV} {M : Mem} {Q : Option PV → Mem → Prop} : WP d 112 54 [l0, l1, l2, l3, l4, l5] (st) M Q = WP d 112 31 [l0, l1, l2, l3, l4, l5] (st) M Q := w_goto mC_112 d112_54 (by decide)
theorem d112_57 : decode cX11_ring 57 = .ok (.iconst 1, 1) := by decide +kernel
theorem k112_57 {d : Nat} {l0 l1 l2 l3 l4 l5 : Option PV} {st : List PV} {M : Mem} {Q : Option PV → Mem → Prop} : WP d 112 57 [l0, l1, l2, l3, l4, l5] (st) M Q = WP d 112 58 [l0, l1, l2, l3, l4, l5] (vi 1 :: st) M Q := w_iconst mC_112 d112_57 (by decide)
theorem d112_58 : decode cX11_ring 58 = .ok (.istore_n 3, 1) := by decide +kernel
theorem k112_58 {d : Nat} {l0 l1 l2 l3 l4 l5 : Option PV} {st : List PV} {M : Mem} {Q : Option PV → Mem → Prop} {x : Int32} : WP d 112 58 [l0, l1, l2, l3, l4, l5] (vi x :: st) M Q = WP d 112 59 [l0, l1, l2, some (vi x), l4, l5] (st) M Q := w1 mC_112 d112_58 rfl rfl
theorem d112_59 : decode cX11_ring 59 = .ok (.aload_n 0, 1) := by decide +kernel
theorem k112_59 {d x : Nat} {l1 l2 l3 l4 l5 : Option PV} {st : List PV} {M : Mem} {Q : Option PV → Mem → Prop} : WP d 112 59 [some (vr x), l1, l2, l3, l4, l5] (st) M Q = WP d 112 60 [some (vr x), l1, l2, l3, l4, l5] (vr x :: st) M Q := w1 mC_112 d112_59 rfl rfl
theorem d112_60 : decode cX11_ring 60 = .ok (.getfield 10, 3) := by decide +kernel
theorem k112_60 {d : Nat} {l0 l1 l2 l3 l4 l5 : Option PV} {st : List PV} {M : Mem} {Q : Option PV → Mem → Prop} {r : Nat} (hk : mK M r = 11) : WP d 112 60 [l0, l1, l2, l3, l4, l5] (vr r :: st) M Q = WP d 112 63 [l0, l1, l2, l3, l4, l5] (vr (mR M r 0) :: st) M Q := w_getr mC_112 d112_60 fE_11_10 rfl (by rw [hk]; rfl)
theorem d112_63 : decode cX11_ring 63 = .ok (.iload_n 2, 1) := by decide +kernel
theorem k112_63 {d : Nat} {x : Int32} {l0 l1 l3 l4 l5 : Option PV} {st : List PV} {M : Mem} {Q : Option PV → Mem → Prop} : WP d 112 63 [l0, l1, some (vi x), l3, l4, l5] (st) M Q = WP d 112 64 [l0, l1, some (vi x), l3, l4, l5] (vi x :: st) M Q := w1 mC_112 d112_63 rfl rfl
theorem d112_64 : decode cX11_ring 64 = .ok (.invokevirtual 271, 3) := by decide +kernel
theorem k112_64 {d : Nat} {l0 l1 l2 l3 l4 l5 : Option PV} {st : List PV} {M : Mem} {Q : Option PV → Mem → Prop} {a0 : Int32} {r : Nat} (hl : szL st ≤ 8) (hk : mK M r = 4) : WP (d + 1) 112 64 [l0, l1, l2, l3, l4, l5] (vi a0 :: vr r :: st) M Q = WP d 34 0 [some (vr r), some (vi a0), none, none, none] [] M (fun v M' => WP (d + 1) 112 67 [l0, l1, l2, l3, l4, l5] (psh v st) M' Q) := w_callV mC_112 d112_64 (ci := 4) rfl rfl rfl (Nat.le_of_ble_eq_true rfl) (by decide) rfl hl (Or.inl hk)
theorem d112_67 : decode cX11_ring 67 = .ok (.istore 4, 2) := by decide +kernel
theorem k112_67 {d : Nat} {l0 l1 l2 l3 l4 l5 : Option PV} {st : List PV} {M : Mem} {Q : Option PV → Mem → Prop} {x : Int32} : WP d 112 67 [l0, l1, l2, l3, l4, l5] (vi x :: st) M Q = WP d 112 69 [l0, l1, l2, l3, some (vi x), l5] (st) M Q := w1 mC_112 d112_67 rfl rfl
theorem d112_69 : decode cX11_ring 69 = .ok (.iconst 0, 1) := by decide +kernel
theorem k112_69 {d : Nat} {l0 l1 l2 l3 l4 l5 : Option PV} {st : List PV} {M : Mem} {Q : Option PV → Mem → Prop} : WP d 112 69 [l0, l1, l2, l3, l4, l5] (st) M Q = WP d 112 70 [l0, l1, l2, l3, l4, l5] (vi 0 :: st) M Q := w_iconst mC_112 d112_69 (by decide)
theorem d112_70 : decode cX11_ring 70 = .ok (.istore 5, 2) := by decide +kernel
theorem k112_70 {d : Nat} {l0 l1 l2 l3 l4 l5 : Option PV} {st : List PV} {M : Mem} {Q : Option PV → Mem → Prop} {x : Int32} : WP d 112 70 [l0, l1, l2, l3, l4, l5] (vi x :: st) M Q = WP d 112 72 [l0, l1, l2, l3, l4, some (vi x)] (st) M Q := w1 mC_112 d112_70 rfl rfl
theorem d112_72 : decode cX11_ring 72 = .ok (.iload 5, 2) := by decide +kernel
theorem k112_72 {d : Nat} {x : Int32} {l0 l1 l2 l3 l4 : Option PV} {st : List PV} {M : Mem} {Q : Option PV → Mem → Prop} : WP d 112 72 [l0, l1, l2, l3, l4, some (vi x)] (st) M Q = WP d 112 74 [l0, l1, l2, l3, l4, some (vi x)] (vi x :: st) M Q := w1 mC_112 d112_72 rfl rfl
theorem d112_74 : decode cX11_ring 74 = .ok (.aload_n 0, 1) := by decide +kernel
theorem k112_74 {d x : Nat} {l1 l2 l3 l4 l5 : Option PV} {st : List PV} {M : Mem} {Q : Option PV → Mem → Prop} : WP d 112 74 [some (vr x), l1, l2, l3, l4, l5] (st) M Q = WP d 112 75 [some (vr x), l1, l2, l3, l4, l5] (vr x :: st) M Q := w1 mC_112 d112_74 rfl rfl
theorem d112_75 : decode cX11_ring 75 = .ok (.getfield 10, 3) := by decide +kernel
theorem k112_75 {d : Nat} {l0 l1 l2 l3 l4 l5 : Option PV} {st : List PV} {M : Mem} {Q : Option PV → Mem → Prop} {r : Nat} (hk : mK M r = 11) : WP d 112 75 [l0, l1, l2, l3, l4, l5] (vr r :: st) M Q = WP d 112 78 [l0, l1, l2, l3, l4, l5] (vr (mR M r 0) :: st) M Q := w_getr mC_112 d112_75 fE_11_10 rfl (by rw [hk]; rfl)
theorem d112_78 : decode cX11_ring 78 = .ok (.getfield 199, 3) := by decide +kernel
theorem k112_78 {d : Nat} {l0 l1 l2 l3 l4 l5 : Option PV} {st : List PV} {M : Mem} {Q : Option PV → Mem → Prop} {r : Nat} (hk : mK M r = 4) : WP d 112 78 [l0, l1, l2, l3, l4, l5] (vr r :: st) M Q = WP d 112 81 [l0, l1, l2, l3, l4, l5] (vi (mI M r 7) :: st) M Q := w_get mC_112 d112_78 fE_11_199 rfl (by rw [hk]; rfl)
theorem d112_81 : decode cX11_ring 81 = .ok (.if_icmp .ge 29, 3) := by decide +kernel
theorem k112_81 {d : Nat} {l0 l1 l2 l3 l4 l5 : Option PV} {st : List PV} {M : Mem} {Q : Option PV → Mem → Prop} {x y : Int32} : WP d 112 81 [l0, l1, l2, l3, l4, l5] (vi y :: vi x :: st) M Q = (if y ≤ x then WP d 112 110 [l0, l1, l2, l3, l4, l5] (st) M Q else WP d 112 84 [l0, l1, l2, l3, l4, l5] (st) M Q) := w_ic_ge mC_112 d112_81 (by decide)
theorem d112_84 : decode cX11_ring 84 = .ok (.iload 4, 2) := by decide +kernel
theorem k112_84 {d : Nat} {x : Int32} {l0 l1 l2 l3 l5 : Option PV} {st : List PV} {M : Mem} {Q : Option PV → Mem → Prop} : WP d 112 84 [l0, l1, l2, l3, some (vi x), l5] (st) M Q = WP d 112 86 [l0, l1, l2, l3, some (vi x), l5] (vi x :: st) M Q := w1 mC_112 d112_84 rfl rfl
theorem d112_86 : decode cX11_ring 86 = .ok (.iload_n 2, 1) := by decide +kernel
theorem k112_86 {d : Nat} {x : Int32} {l0 l1 l3 l4 l5 : Option PV} {st : List PV} {M : Mem} {Q : Option PV → Mem → Prop} : WP d 112 86 [l0, l1, some (vi x), l3, l4, l5] (st) M Q = WP d 112 87 [l0, l1, some (vi x), l3, l4, l5] (vi x :: st) M Q := w1 mC_112 d112_86 rfl rfl
theorem d112_87 : decode cX11_ring 87 = .ok (.if_icmp .eq 23, 3) := by decide +kernel
theorem k112_87 {d : Nat} {l0 l1 l2 l3 l4 l5 : Option PV} {st : List PV} {M : Mem} {Q : Option PV → Mem → Prop} {x y : Int32} : WP d 112 87 [l0, l1, l2, l3, l4, l5] (vi y :: vi x :: st) M Q = (if x = y then WP d 112 110 [l0, l1, l2, l3, l4, l5] (st) M Q else WP d 112 90 [l0, l1, l2, l3, l4, l5] (st) M Q) := w_ic_eq mC_112 d112_87 (by decide)
theorem d112_90 : decode cX11_ring 90 = .ok (.aload_n 0, 1) := by decide +kernel
theorem k112_90 {d x : Nat} {l1 l2 l3 l4 l5 : Option PV} {st : List PV} {M : Mem} {Q : Option PV → Mem → Prop} : WP d 112 90 [some (vr x), l1, l2, l3, l4, l5] (st) M Q = WP d 112 91 [some (vr x), l1, l2, l3, l4, l5] (vr x :: st) M Q := w1 mC_112 d112_90 rfl rfl
theorem d112_91 : decode cX11_ring 91 = .ok (.getfield 10, 3) := by decide +kernel
theorem k112_91 {d : Nat} {l0 l1 l2 l3 l4 l5 : Option PV} {st : List PV} {M : Mem} {Q : Option PV → Mem → Prop} {r : Nat} (hk : mK M r = 11) : WP d 112 91 [l0, l1, l2, l3, l4, l5] (vr r :: st) M Q = WP d 112 94 [l0, l1, l2, l3, l4, l5] (vr (mR M r 0) :: st) M Q := w_getr mC_112 d112_91 fE_11_10 rfl (by rw [hk]; rfl)
theorem d112_94 : decode cX11_ring 94 = .ok (.iload 4, 2) := by decide +kernel
theorem k112_94 {d : Nat} {x : Int32} {l0 l1 l2 l3 l5 : Option PV} {st : List PV} {M : Mem} {Q : Option PV → Mem → Prop} : WP d 112 94 [l0, l1, l2, l3, some (vi x), l5] (st) M Q = WP d 112 96 [l0, l1, l2, l3, some (vi x), l5] (vi x :: st) M Q := w1 mC_112 d112_94 rfl rfl
theorem d112_96 : decode cX11_ring 96 = .ok (.invokevirtual 271, 3) := by decide +kernel
theorem k112_96 {d : Nat} {l0 l1 l2 l3 l4 l5 : Option PV} {st : List PV} {M : Mem} {Q : Option PV → Mem → Prop} {a0 : Int32} {r : Nat} (hl : szL st ≤ 8) (hk : mK M r = 4) : WP (d + 1) 112 96 [l0, l1, l2, l3, l4, l5] (vi a0 :: vr r :: st) M Q = WP d 34 0 [some (vr r), some (vi a0), none, none, none] [] M (fun v M' => WP (d + 1) 112 99 [l0, l1, l2, l3, l4, l5] (psh v st) M' Q) := w_callV mC_112 d112_96 (ci := 4) rfl rfl rfl (Nat.le_of_ble_eq_true rfl) (by decide) rfl hl (Or.inl hk)
theorem d112_99 : decode cX11_ring 99 = .ok (.istore 4, 2) := by decide +kernel
theorem k112_99 {d : Nat} {l0 l1 l2 l3 l4 l5 : Option PV} {st : List PV} {M : Mem} {Q : Option PV → Mem → Prop} {x : Int32} : WP d 112 99 [l0, l1, l2, l3, l4, l5] (vi x :: st) M Q = WP d 112 101 [l0, l1, l2, l3, some (vi x), l5] (st) M Q := w1 mC_112 d112_99 rfl rfl
theorem d112_101 : decode cX11_ring 101 = .ok (.iinc 3 1, 3) := by decide +kernel
theorem k112_101 {d : Nat} {x : Int32} {l0 l1 l2 l4 l5 : Option PV} {st : List PV} {M : Mem} {Q : Option PV → Mem → Prop} : WP d 112 101 [l0, l1, l2, some (vi x), l4, l5] (st) M Q = WP d 112 104 [l0, l1, l2, some (vi (x + 1)), l4, l5] (st) M Q := w_iinc mC_112 d112_101 rfl (by decide) rfl
theorem d112_104 : decode cX11_ring 104 = .ok (.iinc 5 1, 3) := by decide +kernel
theorem k112_104 {d : Nat} {x : Int32} {l0 l1 l2 l3 l4 : Option PV} {st : List PV} {M : Mem} {Q : Option PV → Mem → Prop} : WP d 112 104 [l0, l1, l2, l3, l4, some (vi x)] (st) M Q = WP d 112 107 [l0, l1, l2, l3, l4, some (vi (x + 1))] (st) M Q := w_iinc mC_112 d112_104 rfl (by decide) rfl
theorem d112_107 : decode cX11_ring 107 = .ok (.goto (-35), 3) := by decide +kernel
theorem k112_107 {d : Nat} {l0 l1 l2 l3 l4 l5 : Option PV} {st : List PV} {M : Mem} {Q : Option PV → Mem → Prop} : WP d 112 107 [l0, l1, l2, l3, l4, l5] (st) M Q = WP d 112 72 [l0, l1, l2, l3, l4, l5] (st) M Q := w_goto mC_112 d112_107 (by decide)
theorem d112_110 : decode cX11_ring 110 = .ok (.iload_n 3, 1) := by decide +kernel
theorem k112_110 {d : Nat} {x : Int32} {l0 l1 l2 l4 l5 : Option PV} {st : List PV} {M : Mem} {Q : Option PV → Mem → Prop} : WP d 112 110 [l0, l1, l2, some (vi x), l4, l5] (st) M Q = WP d 112 111 [l0, l1, l2, some (vi x), l4, l5] (vi x :: st) M Q := w1 mC_112 d112_110 rfl rfl
theorem d112_111 : decode cX11_ring 111 = .ok (.ireturn, 1) := by decide +kernel
theorem k112_111 {d : Nat} {l0 l1 l2 l3 l4 l5 : Option PV} {M : Mem} {Q : Option PV → Mem → Prop} {x : Int32} : WP d 112 111 [l0, l1, l2, l3, l4, l5] ([vi x]) M Q = Q (some (vi x)) M := w_iret mC_112 d112_111 rfl
theorem d113_0 : decode cX11_byTurns 0 = .ok (.aload_n 0, 1) := by decide +kernel
theorem k113_0 {d x : Nat} {l1 l2 l3 l4 l5 l6 : Option PV} {st : List PV} {M : Mem} {Q : Option PV → Mem → Prop} : WP d 113 0 [some (vr x), l1, l2, l3, l4, l5, l6] (st) M Q = WP d 113 1 [some (vr x), l1, l2, l3, l4, l5, l6] (vr x :: st) M Q := w1 mC_113 d113_0 rfl rfl
theorem d113_1 : decode cX11_byTurns 1 = .ok (.getfield 10, 3) := by decide +kernel
theorem k113_1 {d : Nat} {l0 l1 l2 l3 l4 l5 l6 : Option PV} {st : List PV} {M : Mem} {Q : Option PV → Mem → Prop} {r : Nat} (hk : mK M r = 11) : WP d 113 1 [l0, l1, l2, l3, l4, l5, l6] (vr r :: st) M Q = WP d 113 4 [l0, l1, l2, l3, l4, l5, l6] (vr (mR M r 0) :: st) M Q := w_getr mC_113 d113_1 fE_11_10 rfl (by rw [hk]; rfl)
theorem d113_4 : decode cX11_byTurns 4 = .ok (.iload_n 1, 1) := by decide +kernel
theorem k113_4 {d : Nat} {x : Int32} {l0 l2 l3 l4 l5 l6 : Option PV} {st : List PV} {M : Mem} {Q : Option PV → Mem → Prop} : WP d 113 4 [l0, some (vi x), l2, l3, l4, l5, l6] (st) M Q = WP d 113 5 [l0, some (vi x), l2, l3, l4, l5, l6] (vi x :: st) M Q := w1 mC_113 d113_4 rfl rfl
theorem d113_5 : decode cX11_byTurns 5 = .ok (.invokevirtual 128, 3) := by decide +kernel
theorem k113_5 {d : Nat} {l0 l1 l2 l3 l4 l5 l6 : Option PV} {st : List PV} {M : Mem} {Q : Option PV → Mem → Prop} {a0 : Int32} {r : Nat} (hl : szL st ≤ 8) (hk : mK M r = 4) : WP (d + 1) 113 5 [l0, l1, l2, l3, l4, l5, l6] (vi a0 :: vr r :: st) M Q = WP d 25 0 [some (vr r), some (vi a0)] [] M (fun v M' => WP (d + 1) 113 8 [l0, l1, l2, l3, l4, l5, l6] (psh v st) M' Q) := w_callV mC_113 d113_5 (ci := 4) rfl rfl rfl (Nat.le_of_ble_eq_true rfl) (by decide) rfl hl (Or.inl hk)
theorem d113_8 : decode cX11_byTurns 8 = .ok (.ifCond .eq 21, 3) := by decide +kernel
theorem k113_8 {d : Nat} {l0 l1 l2 l3 l4 l5 l6 : Option PV} {st : List PV} {M : Mem} {Q : Option PV → Mem → Prop} {x : Int32} : WP d 113 8 [l0, l1, l2, l3, l4, l5, l6] (vi x :: st) M Q = (if x = 0 then WP d 113 29 [l0, l1, l2, l3, l4, l5, l6] (st) M Q else WP d 113 11 [l0, l1, l2, l3, l4, l5, l6] (st) M Q) := w_if_eq mC_113 d113_8 (by decide)
theorem d113_11 : decode cX11_byTurns 11 = .ok (.iload_n 2, 1) := by decide +kernel
theorem k113_11 {d : Nat} {x : Int32} {l0 l1 l3 l4 l5 l6 : Option PV} {st : List PV} {M : Mem} {Q : Option PV → Mem → Prop} : WP d 113 11 [l0, l1, some (vi x), l3, l4, l5, l6] (st) M Q = WP d 113 12 [l0, l1, some (vi x), l3, l4, l5, l6] (vi x :: st) M Q := w1 mC_113 d113_11 rfl rfl
theorem d113_12 : decode cX11_byTurns 12 = .ok (.iconst 1, 1) := by decide +kernel
theorem k113_12 {d : Nat} {l0 l1 l2 l3 l4 l5 l6 : Option PV} {st : List PV} {M : Mem} {Q : Option PV → Mem → Prop} : WP d 113 12 [l0, l1, l2, l3, l4, l5, l6] (st) M Q = WP d 113 13 [l0, l1, l2, l3, l4, l5, l6] (vi 1 :: st) M Q := w_iconst mC_113 d113_12 (by decide)
theorem d113_13 : decode cX11_byTurns 13 = .ok (.iconst 5, 1) := by decide +kernel
theorem k113_13 {d : Nat} {l0 l1 l2 l3 l4 l5 l6 : Option PV} {st : List PV} {M : Mem} {Q : Option PV → Mem → Prop} : WP d 113 13 [l0, l1, l2, l3, l4, l5, l6] (st) M Q = WP d 113 14 [l0, l1, l2, l3, l4, l5, l6] (vi 5 :: st) M Q := w_iconst mC_113 d113_13 (by decide)
theorem d113_14 : decode cX11_byTurns 14 = .ok (.invokestatic 79, 3) := by decide +kernel
theorem k113_14 {d : Nat} {l0 l1 l2 l3 l4 l5 l6 : Option PV} {st : List PV} {M : Mem} {Q : Option PV → Mem → Prop} {a0 a1 a2 : Int32} (hl : szL st ≤ 8) : WP (d + 1) 113 14 [l0, l1, l2, l3, l4, l5, l6] (vi a2 :: vi a1 :: vi a0 :: st) M Q = WP d 141 0 [some (vi a0), some (vi a1), some (vi a2)] [] M (fun v M' => WP (d + 1) 113 17 [l0, l1, l2, l3, l4, l5, l6] (psh v st) M' Q) := w_callS mC_113 d113_14 rfl rfl (Nat.le_of_ble_eq_true rfl) (by decide) rfl hl
theorem d113_17 : decode cX11_byTurns 17 = .ok (.ifCond .eq 12, 3) := by decide +kernel
theorem k113_17 {d : Nat} {l0 l1 l2 l3 l4 l5 l6 : Option PV} {st : List PV} {M : Mem} {Q : Option PV → Mem → Prop} {x : Int32} : WP d 113 17 [l0, l1, l2, l3, l4, l5, l6] (vi x :: st) M Q = (if x = 0 then WP d 113 29 [l0, l1, l2, l3, l4, l5, l6] (st) M Q else WP d 113 20 [l0, l1, l2, l3, l4, l5, l6] (st) M Q) := w_if_eq mC_113 d113_17 (by decide)
theorem d113_20 : decode cX11_byTurns 20 = .ok (.iload_n 3, 1) := by decide +kernel
theorem k113_20 {d : Nat} {x : Int32} {l0 l1 l2 l4 l5 l6 : Option PV} {st : List PV} {M : Mem} {Q : Option PV → Mem → Prop} : WP d 113 20 [l0, l1, l2, some (vi x), l4, l5, l6] (st) M Q = WP d 113 21 [l0, l1, l2, some (vi x), l4, l5, l6] (vi x :: st) M Q := w1 mC_113 d113_20 rfl rfl
theorem d113_21 : decode cX11_byTurns 21 = .ok (.iconst 0, 1) := by decide +kernel
theorem k113_21 {d : Nat} {l0 l1 l2 l3 l4 l5 l6 : Option PV} {st : List PV} {M : Mem} {Q : Option PV → Mem → Prop} : WP d 113 21 [l0, l1, l2, l3, l4, l5, l6] (st) M Q = WP d 113 22 [l0, l1, l2, l3, l4, l5, l6] (vi 0 :: st) M Q := w_iconst mC_113 d113_21 (by decide)
theorem d113_22 : decode cX11_byTurns 22 = .ok (.iconst 1, 1) := by decide +kernel
theorem k113_22 {d : Nat} {l0 l1 l2 l3 l4 l5 l6 : Option PV} {st : List PV} {M : Mem} {Q : Option PV → Mem → Prop} : WP d 113 22 [l0, l1, l2, l3, l4, l5, l6] (st) M Q = WP d 113 23 [l0, l1, l2, l3, l4, l5, l6] (vi 1 :: st) M Q := w_iconst mC_113 d113_22 (by decide)
theorem d113_23 : decode cX11_byTurns 23 = .ok (.invokestatic 79, 3) := by decide +kernel
theorem k113_23 {d : Nat} {l0 l1 l2 l3 l4 l5 l6 : Option PV} {st : List PV} {M : Mem} {Q : Option PV → Mem → Prop} {a0 a1 a2 : Int32} (hl : szL st ≤ 8) : WP (d + 1) 113 23 [l0, l1, l2, l3, l4, l5, l6] (vi a2 :: vi a1 :: vi a0 :: st) M Q = WP d 141 0 [some (vi a0), some (vi a1), some (vi a2)] [] M (fun v M' => WP (d + 1) 113 26 [l0, l1, l2, l3, l4, l5, l6] (psh v st) M' Q) := w_callS mC_113 d113_23 rfl rfl (Nat.le_of_ble_eq_true rfl) (by decide) rfl hl
theorem d113_26 : decode cX11_byTurns 26 = .ok (.ifCond .ne 5, 3) := by decide +kernel
theorem k113_26 {d : Nat} {l0 l1 l2 l3 l4 l5 l6 : Option PV} {st : List PV} {M : Mem} {Q : Option PV → Mem → Prop} {x : Int32} : WP d 113 26 [l0, l1, l2, l3, l4, l5, l6] (vi x :: st) M Q = (if x = 0 then WP d 113 29 [l0, l1, l2, l3, l4, l5, l6] (st) M Q else WP d 113 31 [l0, l1, l2, l3, l4, l5, l6] (st) M Q) := w_if_ne mC_113 d113_26 (by decide)
theorem d113_29 : decode cX11_byTurns 29 = .ok (.iconst (-1), 1) := by decide +kernel
theorem k113_29 {d : Nat} {l0 l1 l2 l3 l4 l5 l6 : Option PV} {st : List PV} {M : Mem} {Q : Option PV → Mem → Prop} : WP d 113 29 [l0, l1, l2, l3, l4, l5, l6] (st) M Q = WP d 113 30 [l0, l1, l2, l3, l4, l5, l6] (vi (-1) :: st) M Q := w_iconst mC_113 d113_29 (by decide)
theorem d113_30 : decode cX11_byTurns 30 = .ok (.ireturn, 1) := by decide +kernel
theorem k113_30 {d : Nat} {l0 l1 l2 l3 l4 l5 l6 : Option PV} {M : Mem} {Q : Option PV → Mem → Prop} {x : Int32} : WP d 113 30 [l0, l1, l2, l3, l4, l5, l6] ([vi x]) M Q = Q (some (vi x)) M := w_iret mC_113 d113_30 rfl
theorem d113_31 : decode cX11_byTurns 31 = .ok (.aload_n 0, 1) := by decide +kernel
theorem k113_31 {d x : Nat} {l1 l2 l3 l4 l5 l6 : Option PV} {st : List PV} {M : Mem} {Q : Option PV → Mem → Prop} : WP d 113 31 [some (vr x), l1, l2, l3, l4, l5, l6] (st) M Q = WP d 113 32 [some (vr x), l1, l2, l3, l4, l5, l6] (vr x :: st) M Q := w1 mC_113 d113_31 rfl rfl
theorem d113_32 : decode cX11_byTurns 32 = .ok (.getfield 10, 3) := by decide +kernel
theorem k113_32 {d : Nat} {l0 l1 l2 l3 l4 l5 l6 : Option PV} {st : List PV} {M : Mem} {Q : Option PV → Mem → Prop} {r : Nat} (hk : mK M r = 11) : WP d 113 32 [l0, l1, l2, l3, l4, l5, l6] (vr r :: st) M Q = WP d 113 35 [l0, l1, l2, l3, l4, l5, l6] (vr (mR M r 0) :: st) M Q := w_getr mC_113 d113_32 fE_11_10 rfl (by rw [hk]; rfl)
theorem d113_35 : decode cX11_byTurns 35 = .ok (.getfield 234, 3) := by decide +kernel
theorem k113_35 {d : Nat} {l0 l1 l2 l3 l4 l5 l6 : Option PV} {st : List PV} {M : Mem} {Q : Option PV → Mem → Prop} {r : Nat} (hk : mK M r = 4) : WP d 113 35 [l0, l1, l2, l3, l4, l5, l6] (vr r :: st) M Q = WP d 113 38 [l0, l1, l2, l3, l4, l5, l6] (vr (mR M r 3) :: st) M Q := w_getr mC_113 d113_35 fE_11_234 rfl (by rw [hk]; rfl)
theorem d113_38 : decode cX11_byTurns 38 = .ok (.iload_n 1, 1) := by decide +kernel
theorem k113_38 {d : Nat} {x : Int32} {l0 l2 l3 l4 l5 l6 : Option PV} {st : List PV} {M : Mem} {Q : Option PV → Mem → Prop} : WP d 113 38 [l0, some (vi x), l2, l3, l4, l5, l6] (st) M Q = WP d 113 39 [l0, some (vi x), l2, l3, l4, l5, l6] (vi x :: st) M Q := w1 mC_113 d113_38 rfl rfl
theorem d113_39 : decode cX11_byTurns 39 = .ok (.iaload, 1) := by decide +kernel
theorem k113_39 {d : Nat} {l0 l1 l2 l3 l4 l5 l6 : Option PV} {st : List PV} {M : Mem} {Q : Option PV → Mem → Prop} {r : Nat} {j : Int32} (hk : mK M r = 13) (hj : inb j (mN M r)) (_h1 : r ≠ 1) : WP d 113 39 [l0, l1, l2, l3, l4, l5, l6] (vi j :: vr r :: st) M Q = WP d 113 40 [l0, l1, l2, l3, l4, l5, l6] (vi (mI M r (ix j)) :: st) M Q := w_iald mC_113 d113_39 hk hj
theorem d113_40 : decode cX11_byTurns 40 = .ok (.istore 4, 2) := by decide +kernel
theorem k113_40 {d : Nat} {l0 l1 l2 l3 l4 l5 l6 : Option PV} {st : List PV} {M : Mem} {Q : Option PV → Mem → Prop} {x : Int32} : WP d 113 40 [l0, l1, l2, l3, l4, l5, l6] (vi x :: st) M Q = WP d 113 42 [l0, l1, l2, l3, some (vi x), l5, l6] (st) M Q := w1 mC_113 d113_40 rfl rfl
theorem d113_42 : decode cX11_byTurns 42 = .ok (.aload_n 0, 1) := by decide +kernel
theorem k113_42 {d x : Nat} {l1 l2 l3 l4 l5 l6 : Option PV} {st : List PV} {M : Mem} {Q : Option PV → Mem → Prop} : WP d 113 42 [some (vr x), l1, l2, l3, l4, l5, l6] (st) M Q = WP d 113 43 [some (vr x), l1, l2, l3, l4, l5, l6] (vr x :: st) M Q := w1 mC_113 d113_42 rfl rfl
theorem d113_43 : decode cX11_byTurns 43 = .ok (.iload_n 1, 1) := by decide +kernel
theorem k113_43 {d : Nat} {x : Int32} {l0 l2 l3 l4 l5 l6 : Option PV} {st : List PV} {M : Mem} {Q : Option PV → Mem → Prop} : WP d 113 43 [l0, some (vi x), l2, l3, l4, l5, l6] (st) M Q = WP d 113 44 [l0, some (vi x), l2, l3, l4, l5, l6] (vi x :: st) M Q := w1 mC_113 d113_43 rfl rfl
theorem d113_44 : decode cX11_byTurns 44 = .ok (.iload_n 2, 1) := by decide +kernel
theorem k113_44 {d : Nat} {x : Int32} {l0 l1 l3 l4 l5 l6 : Option PV} {st : List PV} {M : Mem} {Q : Option PV → Mem → Prop} : WP d 113 44 [l0, l1, some (vi x), l3, l4, l5, l6] (st) M Q = WP d 113 45 [l0, l1, some (vi x), l3, l4, l5, l6] (vi x :: st) M Q := w1 mC_113 d113_44 rfl rfl
theorem d113_45 : decode cX11_byTurns 45 = .ok (.iconst 1, 1) := by decide +kernel
theorem k113_45 {d : Nat} {l0 l1 l2 l3 l4 l5 l6 : Option PV} {st : List PV} {M : Mem} {Q : Option PV → Mem → Prop} : WP d 113 45 [l0, l1, l2, l3, l4, l5, l6] (st) M Q = WP d 113 46 [l0, l1, l2, l3, l4, l5, l6] (vi 1 :: st) M Q := w_iconst mC_113 d113_45 (by decide)
theorem d113_46 : decode cX11_byTurns 46 = .ok (.isub, 1) := by decide +kernel
theorem k113_46 {d : Nat} {l0 l1 l2 l3 l4 l5 l6 : Option PV} {st : List PV} {M : Mem} {Q : Option PV → Mem → Prop} {x y : Int32} : WP d 113 46 [l0, l1, l2, l3, l4, l5, l6] (vi y :: vi x :: st) M Q = WP d 113 47 [l0, l1, l2, l3, l4, l5, l6] (vi (x - y) :: st) M Q := w1 mC_113 d113_46 rfl rfl
theorem d113_47 : decode cX11_byTurns 47 = .ok (.iconst 0, 1) := by decide +kernel
theorem k113_47 {d : Nat} {l0 l1 l2 l3 l4 l5 l6 : Option PV} {st : List PV} {M : Mem} {Q : Option PV → Mem → Prop} : WP d 113 47 [l0, l1, l2, l3, l4, l5, l6] (st) M Q = WP d 113 48 [l0, l1, l2, l3, l4, l5, l6] (vi 0 :: st) M Q := w_iconst mC_113 d113_47 (by decide)
theorem d113_48 : decode cX11_byTurns 48 = .ok (.aload_n 0, 1) := by decide +kernel
theorem k113_48 {d x : Nat} {l1 l2 l3 l4 l5 l6 : Option PV} {st : List PV} {M : Mem} {Q : Option PV → Mem → Prop} : WP d 113 48 [some (vr x), l1, l2, l3, l4, l5, l6] (st) M Q = WP d 113 49 [some (vr x), l1, l2, l3, l4, l5, l6] (vr x :: st) M Q := w1 mC_113 d113_48 rfl rfl
theorem d113_49 : decode cX11_byTurns 49 = .ok (.getfield 10, 3) := by decide +kernel
theorem k113_49 {d : Nat} {l0 l1 l2 l3 l4 l5 l6 : Option PV} {st : List PV} {M : Mem} {Q : Option PV → Mem → Prop} {r : Nat} (hk : mK M r = 11) : WP d 113 49 [l0, l1, l2, l3, l4, l5, l6] (vr r :: st) M Q = WP d 113 52 [l0, l1, l2, l3, l4, l5, l6] (vr (mR M r 0) :: st) M Q := w_getr mC_113 d113_49 fE_11_10 rfl (by rw [hk]; rfl)
theorem d113_52 : decode cX11_byTurns 52 = .ok (.getfield 274, 3) := by decide +kernel
theorem k113_52 {d : Nat} {l0 l1 l2 l3 l4 l5 l6 : Option PV} {st : List PV} {M : Mem} {Q : Option PV → Mem → Prop} {r : Nat} (hk : mK M r = 4) : WP d 113 52 [l0, l1, l2, l3, l4, l5, l6] (vr r :: st) M Q = WP d 113 55 [l0, l1, l2, l3, l4, l5, l6] (vi (mI M r 9) :: st) M Q := w_get mC_113 d113_52 fE_11_274 rfl (by rw [hk]; rfl)
theorem d113_55 : decode cX11_byTurns 55 = .ok (.invokestatic 277, 3) := by decide +kernel
theorem k113_55 {d : Nat} {l0 l1 l2 l3 l4 l5 l6 : Option PV} {st : List PV} {M : Mem} {Q : Option PV → Mem → Prop} {a0 : Int32} (hl : szL st ≤ 8) : WP (d + 1) 113 55 [l0, l1, l2, l3, l4, l5, l6] (vi a0 :: st) M Q = WP d 114 0 [some (vi a0)] [] M (fun v M' => WP (d + 1) 113 58 [l0, l1, l2, l3, l4, l5, l6] (psh v st) M' Q) := w_callS mC_113 d113_55 rfl rfl (Nat.le_of_ble_eq_true rfl) (by decide) rfl hl
theorem d113_58 : decode cX11_byTurns 58 = .ok (.iload 4, 2) := by decide +kernel
theorem k113_58 {d : Nat} {x : Int32} {l0 l1 l2 l3 l5 l6 : Option PV} {st : List PV} {M : Mem} {Q : Option PV → Mem → Prop} : WP d 113 58 [l0, l1, l2, l3, some (vi x), l5, l6] (st) M Q = WP d 113 60 [l0, l1, l2, l3, some (vi x), l5, l6] (vi x :: st) M Q := w1 mC_113 d113_58 rfl rfl
theorem d113_60 : decode cX11_byTurns 60 = .ok (.invokevirtual 280, 3) := by decide +kernel
theorem k113_60 {d : Nat} {l0 l1 l2 l3 l4 l5 l6 : Option PV} {st : List PV} {M : Mem} {Q : Option PV → Mem → Prop} {a0 a1 a2 a3 a4 : Int32} {r : Nat} (hl : szL st ≤ 8) (hk : mK M r = 11) : WP (d + 1) 113 60 [l0, l1, l2, l3, l4, l5, l6] (vi a4 :: vi a3 :: vi a2 :: vi a1 :: vi a0 :: vr r :: st) M Q = WP d 115 0 [some (vr r), some (vi a0), some (vi a1), some (vi a2), some (vi a3), some (vi a4), none] [] M (fun v M' => WP (d + 1) 113 63 [l0, l1, l2, l3, l4, l5, l6] (psh v st) M' Q) := w_callV mC_113 d113_60 (ci := 11) rfl rfl rfl (Nat.le_of_ble_eq_true rfl) (by decide) rfl hl (Or.inl hk)
theorem d113_63 : decode cX11_byTurns 63 = .ok (.istore 5, 2) := by decide +kernel
theorem k113_63 {d : Nat} {l0 l1 l2 l3 l4 l5 l6 : Option PV} {st : List PV} {M : Mem} {Q : Option PV → Mem → Prop} {x : Int32} : WP d 113 63 [l0, l1, l2, l3, l4, l5, l6] (vi x :: st) M Q = WP d 113 65 [l0, l1, l2, l3, l4, some (vi x), l6] (st) M Q := w1 mC_113 d113_63 rfl rfl
theorem d113_65 : decode cX11_byTurns 65 = .ok (.aload_n 0, 1) := by decide +kernel
theorem k113_65 {d x : Nat} {l1 l2 l3 l4 l5 l6 : Option PV} {st : List PV} {M : Mem} {Q : Option PV → Mem → Prop} : WP d 113 65 [some (vr x), l1, l2, l3, l4, l5, l6] (st) M Q = WP d 113 66 [some (vr x), l1, l2, l3, l4, l5, l6] (vr x :: st) M Q := w1 mC_113 d113_65 rfl rfl
theorem d113_66 : decode cX11_byTurns 66 = .ok (.iload_n 1, 1) := by decide +kernel
theorem k113_66 {d : Nat} {x : Int32} {l0 l2 l3 l4 l5 l6 : Option PV} {st : List PV} {M : Mem} {Q : Option PV → Mem → Prop} : WP d 113 66 [l0, some (vi x), l2, l3, l4, l5, l6] (st) M Q = WP d 113 67 [l0, some (vi x), l2, l3, l4, l5, l6] (vi x :: st) M Q := w1 mC_113 d113_66 rfl rfl
theorem d113_67 : decode cX11_byTurns 67 = .ok (.iload_n 2, 1) := by decide +kernel
theorem k113_67 {d : Nat} {x : Int32} {l0 l1 l3 l4 l5 l6 : Option PV} {st : List PV} {M : Mem} {Q : Option PV → Mem → Prop} : WP d 113 67 [l0, l1, some (vi x), l3, l4, l5, l6] (st) M Q = WP d 113 68 [l0, l1, some (vi x), l3, l4, l5, l6] (vi x :: st) M Q := w1 mC_113 d113_67 rfl rfl
theorem d113_68 : decode cX11_byTurns 68 = .ok (.iconst 1, 1) := by decide +kernel
theorem k113_68 {d : Nat} {l0 l1 l2 l3 l4 l5 l6 : Option PV} {st : List PV} {M : Mem} {Q : Option PV → Mem → Prop} : WP d 113 68 [l0, l1, l2, l3, l4, l5, l6] (st) M Q = WP d 113 69 [l0, l1, l2, l3, l4, l5, l6] (vi 1 :: st) M Q := w_iconst mC_113 d113_68 (by decide)
theorem d113_69 : decode cX11_byTurns 69 = .ok (.isub, 1) := by decide +kernel
theorem k113_69 {d : Nat} {l0 l1 l2 l3 l4 l5 l6 : Option PV} {st : List PV} {M : Mem} {Q : Option PV → Mem → Prop} {x y : Int32} : WP d 113 69 [l0, l1, l2, l3, l4, l5, l6] (vi y :: vi x :: st) M Q = WP d 113 70 [l0, l1, l2, l3, l4, l5, l6] (vi (x - y) :: st) M Q := w1 mC_113 d113_69 rfl rfl
theorem d113_70 : decode cX11_byTurns 70 = .ok (.iconst 0, 1) := by decide +kernel
theorem k113_70 {d : Nat} {l0 l1 l2 l3 l4 l5 l6 : Option PV} {st : List PV} {M : Mem} {Q : Option PV → Mem → Prop} : WP d 113 70 [l0, l1, l2, l3, l4, l5, l6] (st) M Q = WP d 113 71 [l0, l1, l2, l3, l4, l5, l6] (vi 0 :: st) M Q := w_iconst mC_113 d113_70 (by decide)
theorem d113_71 : decode cX11_byTurns 71 = .ok (.aload_n 0, 1) := by decide +kernel
theorem k113_71 {d x : Nat} {l1 l2 l3 l4 l5 l6 : Option PV} {st : List PV} {M : Mem} {Q : Option PV → Mem → Prop} : WP d 113 71 [some (vr x), l1, l2, l3, l4, l5, l6] (st) M Q = WP d 113 72 [some (vr x), l1, l2, l3, l4, l5, l6] (vr x :: st) M Q := w1 mC_113 d113_71 rfl rfl
theorem d113_72 : decode cX11_byTurns 72 = .ok (.getfield 10, 3) := by decide +kernel
theorem k113_72 {d : Nat} {l0 l1 l2 l3 l4 l5 l6 : Option PV} {st : List PV} {M : Mem} {Q : Option PV → Mem → Prop} {r : Nat} (hk : mK M r = 11) : WP d 113 72 [l0, l1, l2, l3, l4, l5, l6] (vr r :: st) M Q = WP d 113 75 [l0, l1, l2, l3, l4, l5, l6] (vr (mR M r 0) :: st) M Q := w_getr mC_113 d113_72 fE_11_10 rfl (by rw [hk]; rfl)
theorem d113_75 : decode cX11_byTurns 75 = .ok (.getfield 274, 3) := by decide +kernel
theorem k113_75 {d : Nat} {l0 l1 l2 l3 l4 l5 l6 : Option PV} {st : List PV} {M : Mem} {Q : Option PV → Mem → Prop} {r : Nat} (hk : mK M r = 4) : WP d 113 75 [l0, l1, l2, l3, l4, l5, l6] (vr r :: st) M Q = WP d 113 78 [l0, l1, l2, l3, l4, l5, l6] (vi (mI M r 9) :: st) M Q := w_get mC_113 d113_75 fE_11_274 rfl (by rw [hk]; rfl)
theorem d113_78 : decode cX11_byTurns 78 = .ok (.iload 4, 2) := by decide +kernel
theorem k113_78 {d : Nat} {x : Int32} {l0 l1 l2 l3 l5 l6 : Option PV} {st : List PV} {M : Mem} {Q : Option PV → Mem → Prop} : WP d 113 78 [l0, l1, l2, l3, some (vi x), l5, l6] (st) M Q = WP d 113 80 [l0, l1, l2, l3, some (vi x), l5, l6] (vi x :: st) M Q := w1 mC_113 d113_78 rfl rfl
theorem d113_80 : decode cX11_byTurns 80 = .ok (.invokevirtual 280, 3) := by decide +kernel
theorem k113_80 {d : Nat} {l0 l1 l2 l3 l4 l5 l6 : Option PV} {st : List PV} {M : Mem} {Q : Option PV → Mem → Prop} {a0 a1 a2 a3 a4 : Int32} {r : Nat} (hl : szL st ≤ 8) (hk : mK M r = 11) : WP (d + 1) 113 80 [l0, l1, l2, l3, l4, l5, l6] (vi a4 :: vi a3 :: vi a2 :: vi a1 :: vi a0 :: vr r :: st) M Q = WP d 115 0 [some (vr r), some (vi a0), some (vi a1), some (vi a2), some (vi a3), some (vi a4), none] [] M (fun v M' => WP (d + 1) 113 83 [l0, l1, l2, l3, l4, l5, l6] (psh v st) M' Q) := w_callV mC_113 d113_80 (ci := 11) rfl rfl rfl (Nat.le_of_ble_eq_true rfl) (by decide) rfl hl (Or.inl hk)
theorem d113_83 : decode cX11_byTurns 83 = .ok (.istore 6, 2) := by decide +kernel
theorem k113_83 {d : Nat} {l0 l1 l2 l3 l4 l5 l6 : Option PV} {st : List PV} {M : Mem} {Q : Option PV → Mem → Prop} {x : Int32} : WP d 113 83 [l0, l1, l2, l3, l4, l5, l6] (vi x :: st) M Q = WP d 113 85 [l0, l1, l2, l3, l4, l5, some (vi x)] (st) M Q := w1 mC_113 d113_83 rfl rfl
theorem d113_85 : decode cX11_byTurns 85 = .ok (.iload_n 3, 1) := by decide +kernel
theorem k113_85 {d : Nat} {x : Int32} {l0 l1 l2 l4 l5 l6 : Option PV} {st : List PV} {M : Mem} {Q : Option PV → Mem → Prop} : WP d 113 85 [l0, l1, l2, some (vi x), l4, l5, l6] (st) M Q = WP d 113 86 [l0, l1, l2, some (vi x), l4, l5, l6] (vi x :: st) M Q := w1 mC_113 d113_85 rfl rfl
theorem d113_86 : decode cX11_byTurns 86 = .ok (.iconst 1, 1) := by decide +kernel
theorem k113_86 {d : Nat} {l0 l1 l2 l3 l4 l5 l6 : Option PV} {st : List PV} {M : Mem} {Q : Option PV → Mem → Prop} : WP d 113 86 [l0, l1, l2, l3, l4, l5, l6] (st) M Q = WP d 113 87 [l0, l1, l2, l3, l4, l5, l6] (vi 1 :: st) M Q := w_iconst mC_113 d113_86 (by decide)
theorem d113_87 : decode cX11_byTurns 87 = .ok (.if_icmp .ne 16, 3) := by decide +kernel
theorem k113_87 {d : Nat} {l0 l1 l2 l3 l4 l5 l6 : Option PV} {st : List PV} {M : Mem} {Q : Option PV → Mem → Prop} {x y : Int32} : WP d 113 87 [l0, l1, l2, l3, l4, l5, l6] (vi y :: vi x :: st) M Q = (if x = y then WP d 113 90 [l0, l1, l2, l3, l4, l5, l6] (st) M Q else WP d 113 103 [l0, l1, l2, l3, l4, l5, l6] (st) M Q) := w_ic_ne mC_113 d113_87 (by decide)
theorem d113_90 : decode cX11_byTurns 90 = .ok (.iload 5, 2) := by decide +kernel
theorem k113_90 {d : Nat} {x : Int32} {l0 l1 l2 l3 l4 l6 : Option PV} {st : List PV} {M : Mem} {Q : Option PV → Mem → Prop} : WP d 113 90 [l0, l1, l2, l3, l4, some (vi x), l6] (st) M Q = WP d 113 92 [l0, l1, l2, l3, l4, some (vi x), l6] (vi x :: st) M Q := w1 mC_113 d113_90 rfl rfl
theorem d113_92 : decode cX11_byTurns 92 = .ok (.iload 6, 2) := by decide +kernel
theorem k113_92 {d : Nat} {x : Int32} {l0 l1 l2 l3 l4 l5 : Option PV} {st : List PV} {M : Mem} {Q : Option PV → Mem → Prop} : WP d 113 92 [l0, l1, l2, l3, l4, l5, some (vi x)] (st) M Q = WP d 113 94 [l0, l1, l2, l3, l4, l5, some (vi x)] (vi x :: st) M Q := w1 mC_113 d113_92 rfl rfl
theorem d113_94 : decode cX11_byTurns 94 = .ok (.if_icmp .le 7, 3) := by decide +kernel
theorem k113_94 {d : Nat} {l0 l1 l2 l3 l4 l5 l6 : Option PV} {st : List PV} {M : Mem} {Q : Option PV → Mem → Prop} {x y : Int32} : WP d 113 94 [l0, l1, l2, l3, l4, l5, l6] (vi y :: vi x :: st) M Q = (if x ≤ y then WP d 113 101 [l0, l1, l2, l3, l4, l5, l6] (st) M Q else WP d 113 97 [l0, l1, l2, l3, l4, l5, l6] (st) M Q) := w_ic_le mC_113 d113_94 (by decide)
theorem d113_97 : decode cX11_byTurns 97 = .ok (.iconst 1, 1) := by decide +kernel
theorem k113_97 {d : Nat} {l0 l1 l2 l3 l4 l5 l6 : Option PV} {st : List PV} {M : Mem} {Q : Option PV → Mem → Prop} : WP d 113 97 [l0, l1, l2, l3, l4, l5, l6] (st) M Q = WP d 113 98 [l0, l1, l2, l3, l4, l5, l6] (vi 1 :: st) M Q := w_iconst mC_113 d113_97 (by decide)
theorem d113_98 : decode cX11_byTurns 98 = .ok (.goto 4, 3) := by decide +kernel
theorem k113_98 {d : Nat} {l0 l1 l2 l3 l4 l5 l6 : Option PV} {st : List PV} {M : Mem} {Q : Option PV → Mem → Prop} : WP d 113 98 [l0, l1, l2, l3, l4, l5, l6] (st) M Q = WP d 113 102 [l0, l1, l2, l3, l4, l5, l6] (st) M Q := w_goto mC_113 d113_98 (by decide)
theorem d113_101 : decode cX11_byTurns 101 = .ok (.iconst 0, 1) := by decide +kernel
theorem k113_101 {d : Nat} {l0 l1 l2 l3 l4 l5 l6 : Option PV} {st : List PV} {M : Mem} {Q : Option PV → Mem → Prop} : WP d 113 101 [l0, l1, l2, l3, l4, l5, l6] (st) M Q = WP d 113 102 [l0, l1, l2, l3, l4, l5, l6] (vi 0 :: st) M Q := w_iconst mC_113 d113_101 (by decide)
theorem d113_102 : decode cX11_byTurns 102 = .ok (.ireturn, 1) := by decide +kernel
theorem k113_102 {d : Nat} {l0 l1 l2 l3 l4 l5 l6 : Option PV} {M : Mem} {Q : Option PV → Mem → Prop} {x : Int32} : WP d 113 102 [l0, l1, l2, l3, l4, l5, l6] ([vi x]) M Q = Q (some (vi x)) M := w_iret mC_113 d113_102 rfl
theorem d113_103 : decode cX11_byTurns 103 = .ok (.iload 5, 2) := by decide +kernel
theorem k113_103 {d : Nat} {x : Int32} {l0 l1 l2 l3 l4 l6 : Option PV} {st : List PV} {M : Mem} {Q : Option PV → Mem → Prop} : WP d 113 103 [l0, l1, l2, l3, l4, some (vi x), l6] (st) M Q = WP d 113 105 [l0, l1, l2, l3, l4, some (vi x), l6] (vi x :: st) M Q := w1 mC_113 d113_103 rfl rfl
theorem d113_105 : decode cX11_byTurns 105 = .ok (.iload 6, 2) := by decide +kernel
theorem k113_105 {d : Nat} {x : Int32} {l0 l1 l2 l3 l4 l5 : Option PV} {st : List PV} {M : Mem} {Q : Option PV → Mem → Prop} : WP d 113 105 [l0, l1, l2, l3, l4, l5, some (vi x)] (st) M Q = WP d 113 107 [l0, l1, l2, l3, l4, l5, some (vi x)] (vi x :: st) M Q := w1 mC_113 d113_105 rfl rfl
theorem d113_107 : decode cX11_byTurns 107 = .ok (.invokestatic 212, 3) := by decide +kernel
theorem k113_107 {d : Nat} {l0 l1 l2 l3 l4 l5 l6 : Option PV} {st : List PV} {M : Mem} {Q : Option PV → Mem → Prop} {x y : Int32} (hl : szL st ≤ 8) : WP d 113 107 [l0, l1, l2, l3, l4, l5, l6] (vi y :: vi x :: st) M Q = WP d 113 110 [l0, l1, l2, l3, l4, l5, l6] (vi (if x < y then y else x) :: st) M Q := w_max mC_113 d113_107 rfl rfl rfl hl
theorem d113_110 : decode cX11_byTurns 110 = .ok (.ireturn, 1) := by decide +kernel
theorem k113_110 {d : Nat} {l0 l1 l2 l3 l4 l5 l6 : Option PV} {M : Mem} {Q : Option PV → Mem → Prop} {x : Int32} : WP d 113 110 [l0, l1, l2, l3, l4, l5, l6] ([vi x]) M Q = Q (some (vi x)) M := w_iret mC_113 d113_110 rfl
theorem d114_0 : decode cX11_lessTwo 0 = .ok (.iconst 0, 1) := by decide +kernel
theorem k114_0 {d : Nat} {l0 : Option PV} {st : List PV} {M : Mem} {Q : Option PV → Mem → Prop} : WP d 114 0 [l0] (st) M Q = WP d 114 1 [l0] (vi 0 :: st) M Q := w_iconst mC_114 d114_0 (by decide)
theorem d114_1 : decode cX11_lessTwo 1 = .ok (.iload_n 0, 1) := by decide +kernel
theorem k114_1 {d : Nat} {x : Int32} {st : List PV} {M : Mem} {Q : Option PV → Mem → Prop} : WP d 114 1 [some (vi x)] (st) M Q = WP d 114 2 [some (vi x)] (vi x :: st) M Q := w1 mC_114 d114_1 rfl rfl
theorem d114_2 : decode cX11_lessTwo 2 = .ok (.iconst 1, 1) := by decide +kernel
theorem k114_2 {d : Nat} {l0 : Option PV} {st : List PV} {M : Mem} {Q : Option PV → Mem → Prop} : WP d 114 2 [l0] (st) M Q = WP d 114 3 [l0] (vi 1 :: st) M Q := w_iconst mC_114 d114_2 (by decide)
theorem d114_3 : decode cX11_lessTwo 3 = .ok (.isub, 1) := by decide +kernel
theorem k114_3 {d : Nat} {l0 : Option PV} {st : List PV} {M : Mem} {Q : Option PV → Mem → Prop} {x y : Int32} : WP d 114 3 [l0] (vi y :: vi x :: st) M Q = WP d 114 4 [l0] (vi (x - y) :: st) M Q := w1 mC_114 d114_3 rfl rfl
theorem d114_4 : decode cX11_lessTwo 4 = .ok (.invokestatic 212, 3) := by decide +kernel
theorem k114_4 {d : Nat} {l0 : Option PV} {st : List PV} {M : Mem} {Q : Option PV → Mem → Prop} {x y : Int32} (hl : szL st ≤ 8) : WP d 114 4 [l0] (vi y :: vi x :: st) M Q = WP d 114 7 [l0] (vi (if x < y then y else x) :: st) M Q := w_max mC_114 d114_4 rfl rfl rfl hl
theorem d114_7 : decode cX11_lessTwo 7 = .ok (.ireturn, 1) := by decide +kernel
theorem k114_7 {d : Nat} {l0 : Option PV} {M : Mem} {Q : Option PV → Mem → Prop} {x : Int32} : WP d 114 7 [l0] ([vi x]) M Q = Q (some (vi x)) M := w_iret mC_114 d114_7 rfl
theorem d115_0 : decode cX11_turn 0 = .ok (.iload_n 2, 1) := by decide +kernel
theorem k115_0 {d : Nat} {x : Int32} {l0 l1 l3 l4 l5 l6 : Option PV} {st : List PV} {M : Mem} {Q : Option PV → Mem → Prop} : WP d 115 0 [l0, l1, some (vi x), l3, l4, l5, l6] (st) M Q = WP d 115 1 [l0, l1, some (vi x), l3, l4, l5, l6] (vi x :: st) M Q := w1 mC_115 d115_0 rfl rfl
theorem d115_1 : decode cX11_turn 1 = .ok (.ifCond .gt 13, 3) := by decide +kernel
theorem k115_1 {d : Nat} {l0 l1 l2 l3 l4 l5 l6 : Option PV} {st : List PV} {M : Mem} {Q : Option PV → Mem → Prop} {x : Int32} : WP d 115 1 [l0, l1, l2, l3, l4, l5, l6] (vi x :: st) M Q = (if 0 < x then WP d 115 14 [l0, l1, l2, l3, l4, l5, l6] (st) M Q else WP d 115 4 [l0, l1, l2, l3, l4, l5, l6] (st) M Q) := w_if_gt mC_115 d115_1 (by decide)
theorem d115_4 : decode cX11_turn 4 = .ok (.aload_n 0, 1) := by decide +kernel
theorem k115_4 {d x : Nat} {l1 l2 l3 l4 l5 l6 : Option PV} {st : List PV} {M : Mem} {Q : Option PV → Mem → Prop} : WP d 115 4 [some (vr x), l1, l2, l3, l4, l5, l6] (st) M Q = WP d 115 5 [some (vr x), l1, l2, l3, l4, l5, l6] (vr x :: st) M Q := w1 mC_115 d115_4 rfl rfl
theorem d115_5 : decode cX11_turn 5 = .ok (.iload_n 1, 1) := by decide +kernel
theorem k115_5 {d : Nat} {x : Int32} {l0 l2 l3 l4 l5 l6 : Option PV} {st : List PV} {M : Mem} {Q : Option PV → Mem → Prop} : WP d 115 5 [l0, some (vi x), l2, l3, l4, l5, l6] (st) M Q = WP d 115 6 [l0, some (vi x), l2, l3, l4, l5, l6] (vi x :: st) M Q := w1 mC_115 d115_5 rfl rfl
theorem d115_6 : decode cX11_turn 6 = .ok (.iload 4, 2) := by decide +kernel
theorem k115_6 {d : Nat} {x : Int32} {l0 l1 l2 l3 l5 l6 : Option PV} {st : List PV} {M : Mem} {Q : Option PV → Mem → Prop} : WP d 115 6 [l0, l1, l2, l3, some (vi x), l5, l6] (st) M Q = WP d 115 8 [l0, l1, l2, l3, some (vi x), l5, l6] (vi x :: st) M Q := w1 mC_115 d115_6 rfl rfl
theorem d115_8 : decode cX11_turn 8 = .ok (.iload 5, 2) := by decide +kernel
theorem k115_8 {d : Nat} {x : Int32} {l0 l1 l2 l3 l4 l6 : Option PV} {st : List PV} {M : Mem} {Q : Option PV → Mem → Prop} : WP d 115 8 [l0, l1, l2, l3, l4, some (vi x), l6] (st) M Q = WP d 115 10 [l0, l1, l2, l3, l4, some (vi x), l6] (vi x :: st) M Q := w1 mC_115 d115_8 rfl rfl
theorem d115_10 : decode cX11_turn 10 = .ok (.invokevirtual 284, 3) := by decide +kernel
theorem k115_10 {d : Nat} {l0 l1 l2 l3 l4 l5 l6 : Option PV} {st : List PV} {M : Mem} {Q : Option PV → Mem → Prop} {a0 a1 a2 : Int32} {r : Nat} (hl : szL st ≤ 8) (hk : mK M r = 11) : WP (d + 1) 115 10 [l0, l1, l2, l3, l4, l5, l6] (vi a2 :: vi a1 :: vi a0 :: vr r :: st) M Q = WP d 116 0 [some (vr r), some (vi a0), some (vi a1), some (vi a2)] [] M (fun v M' => WP (d + 1) 115 13 [l0, l1, l2, l3, l4, l5, l6] (psh v st) M' Q) := w_callV mC_115 d115_10 (ci := 11) rfl rfl rfl (Nat.le_of_ble_eq_true rfl) (by decide) rfl hl (Or.inl hk)
theorem d115_13 : decode cX11_turn 13 = .ok (.ireturn, 1) := by decide +kernel
theorem k115_13 {d : Nat} {l0 l1 l2 l3 l4 l5 l6 : Option PV} {M : Mem} {Q : Option PV → Mem → Prop} {x : Int32} : WP d 115 13 [l0, l1, l2, l3, l4, l5, l6] ([vi x]) M Q = Q (some (vi x)) M := w_iret mC_115 d115_13 rfl
theorem d115_14 : decode cX11_turn 14 = .ok (.aload_n 0, 1) := by decide +kernel
theorem k115_14 {d x : Nat} {l1 l2 l3 l4 l5 l6 : Option PV} {st : List PV} {M : Mem} {Q : Option PV → Mem → Prop} : WP d 115 14 [some (vr x), l1, l2, l3, l4, l5, l6] (st) M Q = WP d 115 15 [some (vr x), l1, l2, l3, l4, l5, l6] (vr x :: st) M Q := w1 mC_115 d115_14 rfl rfl
theorem d115_15 : decode cX11_turn 15 = .ok (.iload_n 1, 1) := by decide +kernel
theorem k115_15 {d : Nat} {x : Int32} {l0 l2 l3 l4 l5 l6 : Option PV} {st : List PV} {M : Mem} {Q : Option PV → Mem → Prop} : WP d 115 15 [l0, some (vi x), l2, l3, l4, l5, l6] (st) M Q = WP d 115 16 [l0, some (vi x), l2, l3, l4, l5, l6] (vi x :: st) M Q := w1 mC_115 d115_15 rfl rfl
theorem d115_16 : decode cX11_turn 16 = .ok (.iload_n 2, 1) := by decide +kernel
theorem k115_16 {d : Nat} {x : Int32} {l0 l1 l3 l4 l5 l6 : Option PV} {st : List PV} {M : Mem} {Q : Option PV → Mem → Prop} : WP d 115 16 [l0, l1, some (vi x), l3, l4, l5, l6] (st) M Q = WP d 115 17 [l0, l1, some (vi x), l3, l4, l5, l6] (vi x :: st) M Q := w1 mC_115 d115_16 rfl rfl
theorem d115_17 : decode cX11_turn 17 = .ok (.iconst 1, 1) := by decide +kernel
theorem k115_17 {d : Nat} {l0 l1 l2 l3 l4 l5 l6 : Option PV} {st : List PV} {M : Mem} {Q : Option PV → Mem → Prop} : WP d 115 17 [l0, l1, l2, l3, l4, l5, l6] (st) M Q = WP d 115 18 [l0, l1, l2, l3, l4, l5, l6] (vi 1 :: st) M Q := w_iconst mC_115 d115_17 (by decide)
theorem d115_18 : decode cX11_turn 18 = .ok (.isub, 1) := by decide +kernel
theorem k115_18 {d : Nat} {l0 l1 l2 l3 l4 l5 l6 : Option PV} {st : List PV} {M : Mem} {Q : Option PV → Mem → Prop} {x y : Int32} : WP d 115 18 [l0, l1, l2, l3, l4, l5, l6] (vi y :: vi x :: st) M Q = WP d 115 19 [l0, l1, l2, l3, l4, l5, l6] (vi (x - y) :: st) M Q := w1 mC_115 d115_18 rfl rfl
theorem d115_19 : decode cX11_turn 19 = .ok (.iload_n 3, 1) := by decide +kernel
theorem k115_19 {d : Nat} {x : Int32} {l0 l1 l2 l4 l5 l6 : Option PV} {st : List PV} {M : Mem} {Q : Option PV → Mem → Prop} : WP d 115 19 [l0, l1, l2, some (vi x), l4, l5, l6] (st) M Q = WP d 115 20 [l0, l1, l2, some (vi x), l4, l5, l6] (vi x :: st) M Q := w1 mC_115 d115_19 rfl rfl
theorem d115_20 : decode cX11_turn 20 = .ok (.ifCond .ne 7, 3) := by decide +kernel
theorem k115_20 {d : Nat} {l0 l1 l2 l3 l4 l5 l6 : Option PV} {st : List PV} {M : Mem} {Q : Option PV → Mem → Prop} {x : Int32} : WP d 115 20 [l0, l1, l2, l3, l4, l5, l6] (vi x :: st) M Q = (if x = 0 then WP d 115 23 [l0, l1, l2, l3, l4, l5, l6] (st) M Q else WP d 115 27 [l0, l1, l2, l3, l4, l5, l6] (st) M Q) := w_if_ne mC_115 d115_20 (by decide)
theorem d115_23 : decode cX11_turn 23 = .ok (.iconst 1, 1) := by decide +kernel
theorem k115_23 {d : Nat} {l0 l1 l2 l3 l4 l5 l6 : Option PV} {st : List PV} {M : Mem} {Q : Option PV → Mem → Prop} : WP d 115 23 [l0, l1, l2, l3, l4, l5, l6] (st) M Q = WP d 115 24 [l0, l1, l2, l3, l4, l5, l6] (vi 1 :: st) M Q := w_iconst mC_115 d115_23 (by decide)
theorem d115_24 : decode cX11_turn 24 = .ok (.goto 4, 3) := by decide +kernel
theorem k115_24 {d : Nat} {l0 l1 l2 l3 l4 l5 l6 : Option PV} {st : List PV} {M : Mem} {Q : Option PV → Mem → Prop} : WP d 115 24 [l0, l1, l2, l3, l4, l5, l6] (st) M Q = WP d 115 28 [l0, l1, l2, l3, l4, l5, l6] (st) M Q := w_goto mC_115 d115_24 (by decide)
theorem d115_27 : decode cX11_turn 27 = .ok (.iconst 0, 1) := by decide +kernel
theorem k115_27 {d : Nat} {l0 l1 l2 l3 l4 l5 l6 : Option PV} {st : List PV} {M : Mem} {Q : Option PV → Mem → Prop} : WP d 115 27 [l0, l1, l2, l3, l4, l5, l6] (st) M Q = WP d 115 28 [l0, l1, l2, l3, l4, l5, l6] (vi 0 :: st) M Q := w_iconst mC_115 d115_27 (by decide)
theorem d115_28 : decode cX11_turn 28 = .ok (.iload 4, 2) := by decide +kernel
theorem k115_28 {d : Nat} {x : Int32} {l0 l1 l2 l3 l5 l6 : Option PV} {st : List PV} {M : Mem} {Q : Option PV → Mem → Prop} : WP d 115 28 [l0, l1, l2, l3, some (vi x), l5, l6] (st) M Q = WP d 115 30 [l0, l1, l2, l3, some (vi x), l5, l6] (vi x :: st) M Q := w1 mC_115 d115_28 rfl rfl
theorem d115_30 : decode cX11_turn 30 = .ok (.iload 5, 2) := by decide +kernel
theorem k115_30 {d : Nat} {x : Int32} {l0 l1 l2 l3 l4 l6 : Option PV} {st : List PV} {M : Mem} {Q : Option PV → Mem → Prop} : WP d 115 30 [l0, l1, l2, l3, l4, some (vi x), l6] (st) M Q = WP d 115 32 [l0, l1, l2, l3, l4, some (vi x), l6] (vi x :: st) M Q := w1 mC_115 d115_30 rfl rfl
theorem d115_32 : decode cX11_turn 32 = .ok (.invokevirtual 280, 3) := by decide +kernel
theorem k115_32 {d : Nat} {l0 l1 l2 l3 l4 l5 l6 : Option PV} {st : List PV} {M : Mem} {Q : Option PV → Mem → Prop} {a0 a1 a2 a3 a4 : Int32} {r : Nat} (hl : szL st ≤ 8) (hk : mK M r = 11) : WP (d + 1) 115 32 [l0, l1, l2, l3, l4, l5, l6] (vi a4 :: vi a3 :: vi a2 :: vi a1 :: vi a0 :: vr r :: st) M Q = WP d 115 0 [some (vr r), some (vi a0), some (vi a1), some (vi a2), some (vi a3), some (vi a4), none] [] M (fun v M' => WP (d + 1) 115 35 [l0, l1, l2, l3, l4, l5, l6] (psh v st) M' Q) := w_callV mC_115 d115_32 (ci := 11) rfl rfl rfl (Nat.le_of_ble_eq_true rfl) (by decide) rfl hl (Or.inl hk)
theorem d115_35 : decode cX11_turn 35 = .ok (.istore 6, 2) := by decide +kernel
theorem k115_35 {d : Nat} {l0 l1 l2 l3 l4 l5 l6 : Option PV} {st : List PV} {M : Mem} {Q : Option PV → Mem → Prop} {x : Int32} : WP d 115 35 [l0, l1, l2, l3, l4, l5, l6] (vi x :: st) M Q = WP d 115 37 [l0, l1, l2, l3, l4, l5, some (vi x)] (st) M Q := w1 mC_115 d115_35 rfl rfl
theorem d115_37 : decode cX11_turn 37 = .ok (.iload_n 3, 1) := by decide +kernel
theorem k115_37 {d : Nat} {x : Int32} {l0 l1 l2 l4 l5 l6 : Option PV} {st : List PV} {M : Mem} {Q : Option PV → Mem → Prop} : WP d 115 37 [l0, l1, l2, some (vi x), l4, l5, l6] (st) M Q = WP d 115 38 [l0, l1, l2, some (vi x), l4, l5, l6] (vi x :: st) M Q := w1 mC_115 d115_37 rfl rfl
theorem d115_38 : decode cX11_turn 38 = .ok (.ifCond .eq 25, 3) := by decide +kernel
theorem k115_38 {d : Nat} {l0 l1 l2 l3 l4 l5 l6 : Option PV} {st : List PV} {M : Mem} {Q : Option PV → Mem → Prop} {x : Int32} : WP d 115 38 [l0, l1, l2, l3, l4, l5, l6] (vi x :: st) M Q = (if x = 0 then WP d 115 63 [l0, l1, l2, l3, l4, l5, l6] (st) M Q else WP d 115 41 [l0, l1, l2, l3, l4, l5, l6] (st) M Q) := w_if_eq mC_115 d115_38 (by decide)
theorem d115_41 : decode cX11_turn 41 = .ok (.iload 6, 2) := by decide +kernel
theorem k115_41 {d : Nat} {x : Int32} {l0 l1 l2 l3 l4 l5 : Option PV} {st : List PV} {M : Mem} {Q : Option PV → Mem → Prop} : WP d 115 41 [l0, l1, l2, l3, l4, l5, some (vi x)] (st) M Q = WP d 115 43 [l0, l1, l2, l3, l4, l5, some (vi x)] (vi x :: st) M Q := w1 mC_115 d115_41 rfl rfl
theorem d115_43 : decode cX11_turn 43 = .ok (.aload_n 0, 1) := by decide +kernel
theorem k115_43 {d x : Nat} {l1 l2 l3 l4 l5 l6 : Option PV} {st : List PV} {M : Mem} {Q : Option PV → Mem → Prop} : WP d 115 43 [some (vr x), l1, l2, l3, l4, l5, l6] (st) M Q = WP d 115 44 [some (vr x), l1, l2, l3, l4, l5, l6] (vr x :: st) M Q := w1 mC_115 d115_43 rfl rfl
theorem d115_44 : decode cX11_turn 44 = .ok (.iload_n 1, 1) := by decide +kernel
theorem k115_44 {d : Nat} {x : Int32} {l0 l2 l3 l4 l5 l6 : Option PV} {st : List PV} {M : Mem} {Q : Option PV → Mem → Prop} : WP d 115 44 [l0, some (vi x), l2, l3, l4, l5, l6] (st) M Q = WP d 115 45 [l0, some (vi x), l2, l3, l4, l5, l6] (vi x :: st) M Q := w1 mC_115 d115_44 rfl rfl
theorem d115_45 : decode cX11_turn 45 = .ok (.iload_n 2, 1) := by decide +kernel
theorem k115_45 {d : Nat} {x : Int32} {l0 l1 l3 l4 l5 l6 : Option PV} {st : List PV} {M : Mem} {Q : Option PV → Mem → Prop} : WP d 115 45 [l0, l1, some (vi x), l3, l4, l5, l6] (st) M Q = WP d 115 46 [l0, l1, some (vi x), l3, l4, l5, l6] (vi x :: st) M Q := w1 mC_115 d115_45 rfl rfl
theorem d115_46 : decode cX11_turn 46 = .ok (.iconst 1, 1) := by decide +kernel
theorem k115_46 {d : Nat} {l0 l1 l2 l3 l4 l5 l6 : Option PV} {st : List PV} {M : Mem} {Q : Option PV → Mem → Prop} : WP d 115 46 [l0, l1, l2, l3, l4, l5, l6] (st) M Q = WP d 115 47 [l0, l1, l2, l3, l4, l5, l6] (vi 1 :: st) M Q := w_iconst mC_115 d115_46 (by decide)
theorem d115_47 : decode cX11_turn 47 = .ok (.isub, 1) := by decide +kernel
theorem k115_47 {d : Nat} {l0 l1 l2 l3 l4 l5 l6 : Option PV} {st : List PV} {M : Mem} {Q : Option PV → Mem → Prop} {x y : Int32} : WP d 115 47 [l0, l1, l2, l3, l4, l5, l6] (vi y :: vi x :: st) M Q = WP d 115 48 [l0, l1, l2, l3, l4, l5, l6] (vi (x - y) :: st) M Q := w1 mC_115 d115_47 rfl rfl
theorem d115_48 : decode cX11_turn 48 = .ok (.iconst 0, 1) := by decide +kernel
theorem k115_48 {d : Nat} {l0 l1 l2 l3 l4 l5 l6 : Option PV} {st : List PV} {M : Mem} {Q : Option PV → Mem → Prop} : WP d 115 48 [l0, l1, l2, l3, l4, l5, l6] (st) M Q = WP d 115 49 [l0, l1, l2, l3, l4, l5, l6] (vi 0 :: st) M Q := w_iconst mC_115 d115_48 (by decide)
theorem d115_49 : decode cX11_turn 49 = .ok (.iload 4, 2) := by decide +kernel
theorem k115_49 {d : Nat} {x : Int32} {l0 l1 l2 l3 l5 l6 : Option PV} {st : List PV} {M : Mem} {Q : Option PV → Mem → Prop} : WP d 115 49 [l0, l1, l2, l3, some (vi x), l5, l6] (st) M Q = WP d 115 51 [l0, l1, l2, l3, some (vi x), l5, l6] (vi x :: st) M Q := w1 mC_115 d115_49 rfl rfl
theorem d115_51 : decode cX11_turn 51 = .ok (.invokestatic 277, 3) := by decide +kernel
theorem k115_51 {d : Nat} {l0 l1 l2 l3 l4 l5 l6 : Option PV} {st : List PV} {M : Mem} {Q : Option PV → Mem → Prop} {a0 : Int32} (hl : szL st ≤ 8) : WP (d + 1) 115 51 [l0, l1, l2, l3, l4, l5, l6] (vi a0 :: st) M Q = WP d 114 0 [some (vi a0)] [] M (fun v M' => WP (d + 1) 115 54 [l0, l1, l2, l3, l4, l5, l6] (psh v st) M' Q) := w_callS mC_115 d115_51 rfl rfl (Nat.le_of_ble_eq_true rfl) (by decide) rfl hl
theorem d115_54 : decode cX11_turn 54 = .ok (.iload 5, 2) := by decide +kernel
theorem k115_54 {d : Nat} {x : Int32} {l0 l1 l2 l3 l4 l6 : Option PV} {st : List PV} {M : Mem} {Q : Option PV → Mem → Prop} : WP d 115 54 [l0, l1, l2, l3, l4, some (vi x), l6] (st) M Q = WP d 115 56 [l0, l1, l2, l3, l4, some (vi x), l6] (vi x :: st) M Q := w1 mC_115 d115_54 rfl rfl
theorem d115_56 : decode cX11_turn 56 = .ok (.invokevirtual 280, 3) := by decide +kernel
theorem k115_56 {d : Nat} {l0 l1 l2 l3 l4 l5 l6 : Option PV} {st : List PV} {M : Mem} {Q : Option PV → Mem → Prop} {a0 a1 a2 a3 a4 : Int32} {r : Nat} (hl : szL st ≤ 8) (hk : mK M r = 11) : WP (d + 1) 115 56 [l0, l1, l2, l3, l4, l5, l6] (vi a4 :: vi a3 :: vi a2 :: vi a1 :: vi a0 :: vr r :: st) M Q = WP d 115 0 [some (vr r), some (vi a0), some (vi a1), some (vi a2), some (vi a3), some (vi a4), none] [] M (fun v M' => WP (d + 1) 115 59 [l0, l1, l2, l3, l4, l5, l6] (psh v st) M' Q) := w_callV mC_115 d115_56 (ci := 11) rfl rfl rfl (Nat.le_of_ble_eq_true rfl) (by decide) rfl hl (Or.inl hk)
theorem d115_59 : decode cX11_turn 59 = .ok (.invokestatic 212, 3) := by decide +kernel
theorem k115_59 {d : Nat} {l0 l1 l2 l3 l4 l5 l6 : Option PV} {st : List PV} {M : Mem} {Q : Option PV → Mem → Prop} {x y : Int32} (hl : szL st ≤ 8) : WP d 115 59 [l0, l1, l2, l3, l4, l5, l6] (vi y :: vi x :: st) M Q = WP d 115 62 [l0, l1, l2, l3, l4, l5, l6] (vi (if x < y then y else x) :: st) M Q := w_max mC_115 d115_59 rfl rfl rfl hl
theorem d115_62 : decode cX11_turn 62 = .ok (.ireturn, 1) := by decide +kernel
theorem k115_62 {d : Nat} {l0 l1 l2 l3 l4 l5 l6 : Option PV} {M : Mem} {Q : Option PV → Mem → Prop} {x : Int32} : WP d 115 62 [l0, l1, l2, l3, l4, l5, l6] ([vi x]) M Q = Q (some (vi x)) M := w_iret mC_115 d115_62 rfl
theorem d115_63 : decode cX11_turn 63 = .ok (.iload 6, 2) := by decide +kernel
theorem k115_63 {d : Nat} {x : Int32} {l0 l1 l2 l3 l4 l5 : Option PV} {st : List PV} {M : Mem} {Q : Option PV → Mem → Prop} : WP d 115 63 [l0, l1, l2, l3, l4, l5, some (vi x)] (st) M Q = WP d 115 65 [l0, l1, l2, l3, l4, l5, some (vi x)] (vi x :: st) M Q := w1 mC_115 d115_63 rfl rfl
theorem d115_65 : decode cX11_turn 65 = .ok (.aload_n 0, 1) := by decide +kernel
theorem k115_65 {d x : Nat} {l1 l2 l3 l4 l5 l6 : Option PV} {st : List PV} {M : Mem} {Q : Option PV → Mem → Prop} : WP d 115 65 [some (vr x), l1, l2, l3, l4, l5, l6] (st) M Q = WP d 115 66 [some (vr x), l1, l2, l3, l4, l5, l6] (vr x :: st) M Q := w1 mC_115 d115_65 rfl rfl
theorem d115_66 : decode cX11_turn 66 = .ok (.iload_n 1, 1) := by decide +kernel
theorem k115_66 {d : Nat} {x : Int32} {l0 l2 l3 l4 l5 l6 : Option PV} {st : List PV} {M : Mem} {Q : Option PV → Mem → Prop} : WP d 115 66 [l0, some (vi x), l2, l3, l4, l5, l6] (st) M Q = WP d 115 67 [l0, some (vi x), l2, l3, l4, l5, l6] (vi x :: st) M Q := w1 mC_115 d115_66 rfl rfl
theorem d115_67 : decode cX11_turn 67 = .ok (.iload_n 2, 1) := by decide +kernel
theorem k115_67 {d : Nat} {x : Int32} {l0 l1 l3 l4 l5 l6 : Option PV} {st : List PV} {M : Mem} {Q : Option PV → Mem → Prop} : WP d 115 67 [l0, l1, some (vi x), l3, l4, l5, l6] (st) M Q = WP d 115 68 [l0, l1, some (vi x), l3, l4, l5, l6] (vi x :: st) M Q := w1 mC_115 d115_67 rfl rfl
theorem d115_68 : decode cX11_turn 68 = .ok (.iconst 1, 1) := by decide +kernel
theorem k115_68 {d : Nat} {l0 l1 l2 l3 l4 l5 l6 : Option PV} {st : List PV} {M : Mem} {Q : Option PV → Mem → Prop} : WP d 115 68 [l0, l1, l2, l3, l4, l5, l6] (st) M Q = WP d 115 69 [l0, l1, l2, l3, l4, l5, l6] (vi 1 :: st) M Q := w_iconst mC_115 d115_68 (by decide)
theorem d115_69 : decode cX11_turn 69 = .ok (.isub, 1) := by decide +kernel
theorem k115_69 {d : Nat} {l0 l1 l2 l3 l4 l5 l6 : Option PV} {st : List PV} {M : Mem} {Q : Option PV → Mem → Prop} {x y : Int32} : WP d 115 69 [l0, l1, l2, l3, l4, l5, l6] (vi y :: vi x :: st) M Q = WP d 115 70 [l0, l1, l2, l3, l4, l5, l6] (vi (x - y) :: st) M Q := w1 mC_115 d115_69 rfl rfl
theorem d115_70 : decode cX11_turn 70 = .ok (.iconst 1, 1) := by decide +kernel
theorem k115_70 {d : Nat} {l0 l1 l2 l3 l4 l5 l6 : Option PV} {st : List PV} {M : Mem} {Q : Option PV → Mem → Prop} : WP d 115 70 [l0, l1, l2, l3, l4, l5, l6] (st) M Q = WP d 115 71 [l0, l1, l2, l3, l4, l5, l6] (vi 1 :: st) M Q := w_iconst mC_115 d115_70 (by decide)
theorem d115_71 : decode cX11_turn 71 = .ok (.iload 4, 2) := by decide +kernel
theorem k115_71 {d : Nat} {x : Int32} {l0 l1 l2 l3 l5 l6 : Option PV} {st : List PV} {M : Mem} {Q : Option PV → Mem → Prop} : WP d 115 71 [l0, l1, l2, l3, some (vi x), l5, l6] (st) M Q = WP d 115 73 [l0, l1, l2, l3, some (vi x), l5, l6] (vi x :: st) M Q := w1 mC_115 d115_71 rfl rfl
theorem d115_73 : decode cX11_turn 73 = .ok (.bipush 9, 2) := by decide +kernel
theorem k115_73 {d : Nat} {l0 l1 l2 l3 l4 l5 l6 : Option PV} {st : List PV} {M : Mem} {Q : Option PV → Mem → Prop} : WP d 115 73 [l0, l1, l2, l3, l4, l5, l6] (st) M Q = WP d 115 75 [l0, l1, l2, l3, l4, l5, l6] (vi 9 :: st) M Q := w_bipush mC_115 d115_73 (by decide)
theorem d115_75 : decode cX11_turn 75 = .ok (.iload 5, 2) := by decide +kernel
theorem k115_75 {d : Nat} {x : Int32} {l0 l1 l2 l3 l4 l6 : Option PV} {st : List PV} {M : Mem} {Q : Option PV → Mem → Prop} : WP d 115 75 [l0, l1, l2, l3, l4, some (vi x), l6] (st) M Q = WP d 115 77 [l0, l1, l2, l3, l4, some (vi x), l6] (vi x :: st) M Q := w1 mC_115 d115_75 rfl rfl
theorem d115_77 : decode cX11_turn 77 = .ok (.iconst 1, 1) := by decide +kernel
theorem k115_77 {d : Nat} {l0 l1 l2 l3 l4 l5 l6 : Option PV} {st : List PV} {M : Mem} {Q : Option PV → Mem → Prop} : WP d 115 77 [l0, l1, l2, l3, l4, l5, l6] (st) M Q = WP d 115 78 [l0, l1, l2, l3, l4, l5, l6] (vi 1 :: st) M Q := w_iconst mC_115 d115_77 (by decide)
theorem d115_78 : decode cX11_turn 78 = .ok (.iadd, 1) := by decide +kernel
theorem k115_78 {d : Nat} {l0 l1 l2 l3 l4 l5 l6 : Option PV} {st : List PV} {M : Mem} {Q : Option PV → Mem → Prop} {x y : Int32} : WP d 115 78 [l0, l1, l2, l3, l4, l5, l6] (vi y :: vi x :: st) M Q = WP d 115 79 [l0, l1, l2, l3, l4, l5, l6] (vi (x + y) :: st) M Q := w1 mC_115 d115_78 rfl rfl
theorem d115_79 : decode cX11_turn 79 = .ok (.invokestatic 257, 3) := by decide +kernel
theorem k115_79 {d : Nat} {l0 l1 l2 l3 l4 l5 l6 : Option PV} {st : List PV} {M : Mem} {Q : Option PV → Mem → Prop} {x y : Int32} (hl : szL st ≤ 8) : WP d 115 79 [l0, l1, l2, l3, l4, l5, l6] (vi y :: vi x :: st) M Q = WP d 115 82 [l0, l1, l2, l3, l4, l5, l6] (vi (if y < x then y else x) :: st) M Q := w_min mC_115 d115_79 rfl rfl rfl hl
theorem d115_82 : decode cX11_turn 82 = .ok (.invokevirtual 280, 3) := by decide +kernel
theorem k115_82 {d : Nat} {l0 l1 l2 l3 l4 l5 l6 : Option PV} {st : List PV} {M : Mem} {Q : Option PV → Mem → Prop} {a0 a1 a2 a3 a4 : Int32} {r : Nat} (hl : szL st ≤ 8) (hk : mK M r = 11) : WP (d + 1) 115 82 [l0, l1, l2, l3, l4, l5, l6] (vi a4 :: vi a3 :: vi a2 :: vi a1 :: vi a0 :: vr r :: st) M Q = WP d 115 0 [some (vr r), some (vi a0), some (vi a1), some (vi a2), some (vi a3), some (vi a4), none] [] M (fun v M' => WP (d + 1) 115 85 [l0, l1, l2, l3, l4, l5, l6] (psh v st) M' Q) := w_callV mC_115 d115_82 (ci := 11) rfl rfl rfl (Nat.le_of_ble_eq_true rfl) (by decide) rfl hl (Or.inl hk)
theorem d115_85 : decode cX11_turn 85 = .ok (.invokestatic 257, 3) := by decide +kernel
theorem k115_85 {d : Nat} {l0 l1 l2 l3 l4 l5 l6 : Option PV} {st : List PV} {M : Mem} {Q : Option PV → Mem → Prop} {x y : Int32} (hl : szL st ≤ 8) : WP d 115 85 [l0, l1, l2, l3, l4, l5, l6] (vi y :: vi x :: st) M Q = WP d 115 88 [l0, l1, l2, l3, l4, l5, l6] (vi (if y < x then y else x) :: st) M Q := w_min mC_115 d115_85 rfl rfl rfl hl
theorem d115_88 : decode cX11_turn 88 = .ok (.ireturn, 1) := by decide +kernel
theorem k115_88 {d : Nat} {l0 l1 l2 l3 l4 l5 l6 : Option PV} {M : Mem} {Q : Option PV → Mem → Prop} {x : Int32} : WP d 115 88 [l0, l1, l2, l3, l4, l5, l6] ([vi x]) M Q = Q (some (vi x)) M := w_iret mC_115 d115_88 rfl
theorem d116_0 : decode cX11_backBy 0 = .ok (.aload_n 0, 1) := by decide +kernel
theorem k116_0 {d x : Nat} {l1 l2 l3 : Option PV} {st : List PV} {M : Mem} {Q : Option PV → Mem → Prop} : WP d 116 0 [some (vr x), l1, l2, l3] (st) M Q = WP d 116 1 [some (vr x), l1, l2, l3] (vr x :: st) M Q := w1 mC_116 d116_0 rfl rfl
theorem d116_1 : decode cX11_backBy 1 = .ok (.getfield 16, 3) := by decide +kernel
theorem k116_1 {d : Nat} {l0 l1 l2 l3 : Option PV} {st : List PV} {M : Mem} {Q : Option PV → Mem → Prop} {r : Nat} (hk : mK M r = 11) : WP d 116 1 [l0, l1, l2, l3] (vr r :: st) M Q = WP d 116 4 [l0, l1, l2, l3] (vr (mR M r 1) :: st) M Q := w_getr mC_116 d116_1 fE_11_16 rfl (by rw [hk]; rfl)
theorem d116_4 : decode cX11_backBy 4 = .ok (.aload_n 0, 1) := by decide +kernel
theorem k116_4 {d x : Nat} {l1 l2 l3 : Option PV} {st : List PV} {M : Mem} {Q : Option PV → Mem → Prop} : WP d 116 4 [some (vr x), l1, l2, l3] (st) M Q = WP d 116 5 [some (vr x), l1, l2, l3] (vr x :: st) M Q := w1 mC_116 d116_4 rfl rfl
theorem d116_5 : decode cX11_backBy 5 = .ok (.getfield 10, 3) := by decide +kernel
theorem k116_5 {d : Nat} {l0 l1 l2 l3 : Option PV} {st : List PV} {M : Mem} {Q : Option PV → Mem → Prop} {r : Nat} (hk : mK M r = 11) : WP d 116 5 [l0, l1, l2, l3] (vr r :: st) M Q = WP d 116 8 [l0, l1, l2, l3] (vr (mR M r 0) :: st) M Q := w_getr mC_116 d116_5 fE_11_10 rfl (by rw [hk]; rfl)
theorem d116_8 : decode cX11_backBy 8 = .ok (.invokevirtual 151, 3) := by decide +kernel
theorem k116_8 {d : Nat} {l0 l1 l2 l3 : Option PV} {st : List PV} {M : Mem} {Q : Option PV → Mem → Prop} {a0 : Nat} {r : Nat} (hl : szL st ≤ 8) (hk : mK M r = 4) : WP (d + 1) 116 8 [l0, l1, l2, l3] (vr a0 :: vr r :: st) M Q = WP d 31 0 [some (vr r), some (vr a0)] [] M (fun v M' => WP (d + 1) 116 11 [l0, l1, l2, l3] (psh v st) M' Q) := w_callV mC_116 d116_8 (ci := 4) rfl rfl rfl (Nat.le_of_ble_eq_true rfl) (by decide) rfl hl (Or.inl hk)
theorem d116_11 : decode cX11_backBy 11 = .ok (.aload_n 0, 1) := by decide +kernel
theorem k116_11 {d x : Nat} {l1 l2 l3 : Option PV} {st : List PV} {M : Mem} {Q : Option PV → Mem → Prop} : WP d 116 11 [some (vr x), l1, l2, l3] (st) M Q = WP d 116 12 [some (vr x), l1, l2, l3] (vr x :: st) M Q := w1 mC_116 d116_11 rfl rfl
theorem d116_12 : decode cX11_backBy 12 = .ok (.getfield 16, 3) := by decide +kernel
theorem k116_12 {d : Nat} {l0 l1 l2 l3 : Option PV} {st : List PV} {M : Mem} {Q : Option PV → Mem → Prop} {r : Nat} (hk : mK M r = 11) : WP d 116 12 [l0, l1, l2, l3] (vr r :: st) M Q = WP d 116 15 [l0, l1, l2, l3] (vr (mR M r 1) :: st) M Q := w_getr mC_116 d116_12 fE_11_16 rfl (by rw [hk]; rfl)
theorem d116_15 : decode cX11_backBy 15 = .ok (.iload_n 2, 1) := by decide +kernel
theorem k116_15 {d : Nat} {x : Int32} {l0 l1 l3 : Option PV} {st : List PV} {M : Mem} {Q : Option PV → Mem → Prop} : WP d 116 15 [l0, l1, some (vi x), l3] (st) M Q = WP d 116 16 [l0, l1, some (vi x), l3] (vi x :: st) M Q := w1 mC_116 d116_15 rfl rfl
theorem d116_16 : decode cX11_backBy 16 = .ok (.putfield 274, 3) := by decide +kernel
theorem k116_16 {d : Nat} {l0 l1 l2 l3 : Option PV} {st : List PV} {M : Mem} {Q : Option PV → Mem → Prop} {r : Nat} {x : Int32} (hk : mK M r = 4) : WP d 116 16 [l0, l1, l2, l3] (vi x :: vr r :: st) M Q = WP d 116 19 [l0, l1, l2, l3] (st) (sI M r 9 x) Q := w_put mC_116 d116_16 fE_11_274 (by decide +kernel) (by rw [hk]; rfl)
theorem d116_19 : decode cX11_backBy 19 = .ok (.aload_n 0, 1) := by decide +kernel
theorem k116_19 {d x : Nat} {l1 l2 l3 : Option PV} {st : List PV} {M : Mem} {Q : Option PV → Mem → Prop} : WP d 116 19 [some (vr x), l1, l2, l3] (st) M Q = WP d 116 20 [some (vr x), l1, l2, l3] (vr x :: st) M Q := w1 mC_116 d116_19 rfl rfl
theorem d116_20 : decode cX11_backBy 20 = .ok (.getfield 16, 3) := by decide +kernel
theorem k116_20 {d : Nat} {l0 l1 l2 l3 : Option PV} {st : List PV} {M : Mem} {Q : Option PV → Mem → Prop} {r : Nat} (hk : mK M r = 11) : WP d 116 20 [l0, l1, l2, l3] (vr r :: st) M Q = WP d 116 23 [l0, l1, l2, l3] (vr (mR M r 1) :: st) M Q := w_getr mC_116 d116_20 fE_11_16 rfl (by rw [hk]; rfl)
theorem d116_23 : decode cX11_backBy 23 = .ok (.getfield 234, 3) := by decide +kernel
theorem k116_23 {d : Nat} {l0 l1 l2 l3 : Option PV} {st : List PV} {M : Mem} {Q : Option PV → Mem → Prop} {r : Nat} (hk : mK M r = 4) : WP d 116 23 [l0, l1, l2, l3] (vr r :: st) M Q = WP d 116 26 [l0, l1, l2, l3] (vr (mR M r 3) :: st) M Q := w_getr mC_116 d116_23 fE_11_234 rfl (by rw [hk]; rfl)
theorem d116_26 : decode cX11_backBy 26 = .ok (.iload_n 1, 1) := by decide +kernel
theorem k116_26 {d : Nat} {x : Int32} {l0 l2 l3 : Option PV} {st : List PV} {M : Mem} {Q : Option PV → Mem → Prop} : WP d 116 26 [l0, some (vi x), l2, l3] (st) M Q = WP d 116 27 [l0, some (vi x), l2, l3] (vi x :: st) M Q := w1 mC_116 d116_26 rfl rfl
theorem d116_27 : decode cX11_backBy 27 = .ok (.iload_n 3, 1) := by decide +kernel
theorem k116_27 {d : Nat} {x : Int32} {l0 l1 l2 : Option PV} {st : List PV} {M : Mem} {Q : Option PV → Mem → Prop} : WP d 116 27 [l0, l1, l2, some (vi x)] (st) M Q = WP d 116 28 [l0, l1, l2, some (vi x)] (vi x :: st) M Q := w1 mC_116 d116_27 rfl rfl
theorem d116_28 : decode cX11_backBy 28 = .ok (.iastore, 1) := by decide +kernel
theorem k116_28 {d : Nat} {l0 l1 l2 l3 : Option PV} {st : List PV} {M : Mem} {Q : Option PV → Mem → Prop} {r : Nat} {j x : Int32} (hk : mK M r = 13) (hj : inb j (mN M r)) (h1 : r ≠ 1) : WP d 116 28 [l0, l1, l2, l3] (vi x :: vi j :: vr r :: st) M Q = WP d 116 29 [l0, l1, l2, l3] (st) (sI M r (ix j) x) Q := w_iast mC_116 d116_28 hk hj h1
theorem d116_29 : decode cX11_backBy 29 = .ok (.iconst 0, 1) := by decide +kernel
theorem k116_29 {d : Nat} {l0 l1 l2 l3 : Option PV} {st : List PV} {M : Mem} {Q : Option PV → Mem → Prop} : WP d 116 29 [l0, l1, l2, l3] (st) M Q = WP d 116 30 [l0, l1, l2, l3] (vi 0 :: st) M Q := w_iconst mC_116 d116_29 (by decide)
theorem d116_30 : decode cX11_backBy 30 = .ok (.aload_n 0, 1) := by decide +kernel
theorem k116_30 {d x : Nat} {l1 l2 l3 : Option PV} {st : List PV} {M : Mem} {Q : Option PV → Mem → Prop} : WP d 116 30 [some (vr x), l1, l2, l3] (st) M Q = WP d 116 31 [some (vr x), l1, l2, l3] (vr x :: st) M Q := w1 mC_116 d116_30 rfl rfl
theorem d116_31 : decode cX11_backBy 31 = .ok (.iload_n 1, 1) := by decide +kernel
theorem k116_31 {d : Nat} {x : Int32} {l0 l2 l3 : Option PV} {st : List PV} {M : Mem} {Q : Option PV → Mem → Prop} : WP d 116 31 [l0, some (vi x), l2, l3] (st) M Q = WP d 116 32 [l0, some (vi x), l2, l3] (vi x :: st) M Q := w1 mC_116 d116_31 rfl rfl
theorem d116_32 : decode cX11_backBy 32 = .ok (.invokevirtual 172, 3) := by decide +kernel
theorem k116_32 {d : Nat} {l0 l1 l2 l3 : Option PV} {st : List PV} {M : Mem} {Q : Option PV → Mem → Prop} {a0 : Int32} {r : Nat} (hl : szL st ≤ 8) (hk : mK M r = 11) : WP (d + 1) 116 32 [l0, l1, l2, l3] (vi a0 :: vr r :: st) M Q = WP d 87 0 [some (vr r), some (vi a0), none, none] [] M (fun v M' => WP (d + 1) 116 35 [l0, l1, l2, l3] (psh v st) M' Q) := w_callV mC_116 d116_32 (ci := 11) rfl rfl rfl (Nat.le_of_ble_eq_true rfl) (by decide) rfl hl (Or.inl hk)
theorem d116_35 : decode cX11_backBy 35 = .ok (.invokestatic 212, 3) := by decide +kernel
theorem k116_35 {d : Nat} {l0 l1 l2 l3 : Option PV} {st : List PV} {M : Mem} {Q : Option PV → Mem → Prop} {x y : Int32} (hl : szL st ≤ 8) : WP d 116 35 [l0, l1, l2, l3] (vi y :: vi x :: st) M Q = WP d 116 38 [l0, l1, l2, l3] (vi (if x < y then y else x) :: st) M Q := w_max mC_116 d116_35 rfl rfl rfl hl
theorem d116_38 : decode cX11_backBy 38 = .ok (.ireturn, 1) := by decide +kernel
theorem k116_38 {d : Nat} {l0 l1 l2 l3 : Option PV} {M : Mem} {Q : Option PV → Mem → Prop} {x : Int32} : WP d 116 38 [l0, l1, l2, l3] ([vi x]) M Q = Q (some (vi x)) M := w_iret mC_116 d116_38 rfl
theorem d117_0 : decode cX11_drawn 0 = .ok (.iload_n 2, 1) := by decide +kernel
theorem k117_0 {d : Nat} {x : Int32} {l0 l1 l3 l4 l5 l6 l7 l8 l9 : Option PV} {st : List PV} {M : Mem} {Q : Option PV → Mem → Prop} : WP d 117 0 [l0, l1, some (vi x), l3, l4, l5, l6, l7, l8, l9] (st) M Q = WP d 117 1 [l0, l1, some (vi x), l3, l4, l5, l6, l7, l8, l9] (vi x :: st) M Q := w1 mC_117 d117_0 rfl rfl
theorem d117_1 : decode cX11_drawn 1 = .ok (.bipush 100, 2) := by decide +kernel
theorem k117_1 {d : Nat} {l0 l1 l2 l3 l4 l5 l6 l7 l8 l9 : Option PV} {st : List PV} {M : Mem} {Q : Option PV → Mem → Prop} : WP d 117 1 [l0, l1, l2, l3, l4, l5, l6, l7, l8, l9] (st) M Q = WP d 117 3 [l0, l1, l2, l3, l4, l5, l6, l7, l8, l9] (vi 100 :: st) M Q := w_bipush mC_117 d117_1 (by decide)
theorem d117_3 : decode cX11_drawn 3 = .ok (.idiv, 1) := by decide +kernel
theorem k117_3 {d : Nat} {l0 l1 l2 l3 l4 l5 l6 l7 l8 l9 : Option PV} {st : List PV} {M : Mem} {Q : Option PV → Mem → Prop} {x y : Int32} (h : y ≠ 0) : WP d 117 3 [l0, l1, l2, l3, l4, l5, l6, l7, l8, l9] (vi y :: vi x :: st) M Q = WP d 117 4 [l0, l1, l2, l3, l4, l5, l6, l7, l8, l9] (vi (x / y) :: st) M Q := w_div mC_117 d117_3 h
theorem d117_4 : decode cX11_drawn 4 = .ok (.bipush 100, 2) := by decide +kernel
theorem k117_4 {d : Nat} {l0 l1 l2 l3 l4 l5 l6 l7 l8 l9 : Option PV} {st : List PV} {M : Mem} {Q : Option PV → Mem → Prop} : WP d 117 4 [l0, l1, l2, l3, l4, l5, l6, l7, l8, l9] (st) M Q = WP d 117 6 [l0, l1, l2, l3, l4, l5, l6, l7, l8, l9] (vi 100 :: st) M Q := w_bipush mC_117 d117_4 (by decide)
theorem d117_6 : decode cX11_drawn 6 = .ok (.irem, 1) := by decide +kernel
theorem k117_6 {d : Nat} {l0 l1 l2 l3 l4 l5 l6 l7 l8 l9 : Option PV} {st : List PV} {M : Mem} {Q : Option PV → Mem → Prop} {x y : Int32} (h : y ≠ 0) : WP d 117 6 [l0, l1, l2, l3, l4, l5, l6, l7, l8, l9] (vi y :: vi x :: st) M Q = WP d 117 7 [l0, l1, l2, l3, l4, l5, l6, l7, l8, l9] (vi (x % y) :: st) M Q := w_rem mC_117 d117_6 h
theorem d117_7 : decode cX11_drawn 7 = .ok (.istore 4, 2) := by decide +kernel
theorem k117_7 {d : Nat} {l0 l1 l2 l3 l4 l5 l6 l7 l8 l9 : Option PV} {st : List PV} {M : Mem} {Q : Option PV → Mem → Prop} {x : Int32} : WP d 117 7 [l0, l1, l2, l3, l4, l5, l6, l7, l8, l9] (vi x :: st) M Q = WP d 117 9 [l0, l1, l2, l3, some (vi x), l5, l6, l7, l8, l9] (st) M Q := w1 mC_117 d117_7 rfl rfl
theorem d117_9 : decode cX11_drawn 9 = .ok (.iload_n 2, 1) := by decide +kernel
theorem k117_9 {d : Nat} {x : Int32} {l0 l1 l3 l4 l5 l6 l7 l8 l9 : Option PV} {st : List PV} {M : Mem} {Q : Option PV → Mem → Prop} : WP d 117 9 [l0, l1, some (vi x), l3, l4, l5, l6, l7, l8, l9] (st) M Q = WP d 117 10 [l0, l1, some (vi x), l3, l4, l5, l6, l7, l8, l9] (vi x :: st) M Q := w1 mC_117 d117_9 rfl rfl
theorem d117_10 : decode cX11_drawn 10 = .ok (.sipush 10000, 3) := by decide +kernel
theorem k117_10 {d : Nat} {l0 l1 l2 l3 l4 l5 l6 l7 l8 l9 : Option PV} {st : List PV} {M : Mem} {Q : Option PV → Mem → Prop} : WP d 117 10 [l0, l1, l2, l3, l4, l5, l6, l7, l8, l9] (st) M Q = WP d 117 13 [l0, l1, l2, l3, l4, l5, l6, l7, l8, l9] (vi 10000 :: st) M Q := w_sipush mC_117 d117_10 (by decide)
theorem d117_13 : decode cX11_drawn 13 = .ok (.idiv, 1) := by decide +kernel
theorem k117_13 {d : Nat} {l0 l1 l2 l3 l4 l5 l6 l7 l8 l9 : Option PV} {st : List PV} {M : Mem} {Q : Option PV → Mem → Prop} {x y : Int32} (h : y ≠ 0) : WP d 117 13 [l0, l1, l2, l3, l4, l5, l6, l7, l8, l9] (vi y :: vi x :: st) M Q = WP d 117 14 [l0, l1, l2, l3, l4, l5, l6, l7, l8, l9] (vi (x / y) :: st) M Q := w_div mC_117 d117_13 h
theorem d117_14 : decode cX11_drawn 14 = .ok (.iconst 1, 1) := by decide +kernel
theorem k117_14 {d : Nat} {l0 l1 l2 l3 l4 l5 l6 l7 l8 l9 : Option PV} {st : List PV} {M : Mem} {Q : Option PV → Mem → Prop} : WP d 117 14 [l0, l1, l2, l3, l4, l5, l6, l7, l8, l9] (st) M Q = WP d 117 15 [l0, l1, l2, l3, l4, l5, l6, l7, l8, l9] (vi 1 :: st) M Q := w_iconst mC_117 d117_14 (by decide)
theorem d117_15 : decode cX11_drawn 15 = .ok (.bipush 30, 2) := by decide +kernel
theorem k117_15 {d : Nat} {l0 l1 l2 l3 l4 l5 l6 l7 l8 l9 : Option PV} {st : List PV} {M : Mem} {Q : Option PV → Mem → Prop} : WP d 117 15 [l0, l1, l2, l3, l4, l5, l6, l7, l8, l9] (st) M Q = WP d 117 17 [l0, l1, l2, l3, l4, l5, l6, l7, l8, l9] (vi 30 :: st) M Q := w_bipush mC_117 d117_15 (by decide)
theorem d117_17 : decode cX11_drawn 17 = .ok (.invokestatic 79, 3) := by decide +kernel
theorem k117_17 {d : Nat} {l0 l1 l2 l3 l4 l5 l6 l7 l8 l9 : Option PV} {st : List PV} {M : Mem} {Q : Option PV → Mem → Prop} {a0 a1 a2 : Int32} (hl : szL st ≤ 8) : WP (d + 1) 117 17 [l0, l1, l2, l3, l4, l5, l6, l7, l8, l9] (vi a2 :: vi a1 :: vi a0 :: st) M Q = WP d 141 0 [some (vi a0), some (vi a1), some (vi a2)] [] M (fun v M' => WP (d + 1) 117 20 [l0, l1, l2, l3, l4, l5, l6, l7, l8, l9] (psh v st) M' Q) := w_callS mC_117 d117_17 rfl rfl (Nat.le_of_ble_eq_true rfl) (by decide) rfl hl
theorem d117_20 : decode cX11_drawn 20 = .ok (.ifCond .eq 18, 3) := by decide +kernel
theorem k117_20 {d : Nat} {l0 l1 l2 l3 l4 l5 l6 l7 l8 l9 : Option PV} {st : List PV} {M : Mem} {Q : Option PV → Mem → Prop} {x : Int32} : WP d 117 20 [l0, l1, l2, l3, l4, l5, l6, l7, l8, l9] (vi x :: st) M Q = (if x = 0 then WP d 117 38 [l0, l1, l2, l3, l4, l5, l6, l7, l8, l9] (st) M Q else WP d 117 23 [l0, l1, l2, l3, l4, l5, l6, l7, l8, l9] (st) M Q) := w_if_eq mC_117 d117_20 (by decide)
theorem d117_23 : decode cX11_drawn 23 = .ok (.iload 4, 2) := by decide +kernel
theorem k117_23 {d : Nat} {x : Int32} {l0 l1 l2 l3 l5 l6 l7 l8 l9 : Option PV} {st : List PV} {M : Mem} {Q : Option PV → Mem → Prop} : WP d 117 23 [l0, l1, l2, l3, some (vi x), l5, l6, l7, l8, l9] (st) M Q = WP d 117 25 [l0, l1, l2, l3, some (vi x), l5, l6, l7, l8, l9] (vi x :: st) M Q := w1 mC_117 d117_23 rfl rfl
theorem d117_25 : decode cX11_drawn 25 = .ok (.iconst 1, 1) := by decide +kernel
theorem k117_25 {d : Nat} {l0 l1 l2 l3 l4 l5 l6 l7 l8 l9 : Option PV} {st : List PV} {M : Mem} {Q : Option PV → Mem → Prop} : WP d 117 25 [l0, l1, l2, l3, l4, l5, l6, l7, l8, l9] (st) M Q = WP d 117 26 [l0, l1, l2, l3, l4, l5, l6, l7, l8, l9] (vi 1 :: st) M Q := w_iconst mC_117 d117_25 (by decide)
theorem d117_26 : decode cX11_drawn 26 = .ok (.bipush 40, 2) := by decide +kernel
theorem k117_26 {d : Nat} {l0 l1 l2 l3 l4 l5 l6 l7 l8 l9 : Option PV} {st : List PV} {M : Mem} {Q : Option PV → Mem → Prop} : WP d 117 26 [l0, l1, l2, l3, l4, l5, l6, l7, l8, l9] (st) M Q = WP d 117 28 [l0, l1, l2, l3, l4, l5, l6, l7, l8, l9] (vi 40 :: st) M Q := w_bipush mC_117 d117_26 (by decide)
theorem d117_28 : decode cX11_drawn 28 = .ok (.invokestatic 79, 3) := by decide +kernel
theorem k117_28 {d : Nat} {l0 l1 l2 l3 l4 l5 l6 l7 l8 l9 : Option PV} {st : List PV} {M : Mem} {Q : Option PV → Mem → Prop} {a0 a1 a2 : Int32} (hl : szL st ≤ 8) : WP (d + 1) 117 28 [l0, l1, l2, l3, l4, l5, l6, l7, l8, l9] (vi a2 :: vi a1 :: vi a0 :: st) M Q = WP d 141 0 [some (vi a0), some (vi a1), some (vi a2)] [] M (fun v M' => WP (d + 1) 117 31 [l0, l1, l2, l3, l4, l5, l6, l7, l8, l9] (psh v st) M' Q) := w_callS mC_117 d117_28 rfl rfl (Nat.le_of_ble_eq_true rfl) (by decide) rfl hl
theorem d117_31 : decode cX11_drawn 31 = .ok (.ifCond .eq 7, 3) := by decide +kernel
theorem k117_31 {d : Nat} {l0 l1 l2 l3 l4 l5 l6 l7 l8 l9 : Option PV} {st : List PV} {M : Mem} {Q : Option PV → Mem → Prop} {x : Int32} : WP d 117 31 [l0, l1, l2, l3, l4, l5, l6, l7, l8, l9] (vi x :: st) M Q = (if x = 0 then WP d 117 38 [l0, l1, l2, l3, l4, l5, l6, l7, l8, l9] (st) M Q else WP d 117 34 [l0, l1, l2, l3, l4, l5, l6, l7, l8, l9] (st) M Q) := w_if_eq mC_117 d117_31 (by decide)
theorem d117_34 : decode cX11_drawn 34 = .ok (.iconst 1, 1) := by decide +kernel
theorem k117_34 {d : Nat} {l0 l1 l2 l3 l4 l5 l6 l7 l8 l9 : Option PV} {st : List PV} {M : Mem} {Q : Option PV → Mem → Prop} : WP d 117 34 [l0, l1, l2, l3, l4, l5, l6, l7, l8, l9] (st) M Q = WP d 117 35 [l0, l1, l2, l3, l4, l5, l6, l7, l8, l9] (vi 1 :: st) M Q := w_iconst mC_117 d117_34 (by decide)
theorem d117_35 : decode cX11_drawn 35 = .ok (.goto 4, 3) := by decide +kernel
theorem k117_35 {d : Nat} {l0 l1 l2 l3 l4 l5 l6 l7 l8 l9 : Option PV} {st : List PV} {M : Mem} {Q : Option PV → Mem → Prop} : WP d 117 35 [l0, l1, l2, l3, l4, l5, l6, l7, l8, l9] (st) M Q = WP d 117 39 [l0, l1, l2, l3, l4, l5, l6, l7, l8, l9] (st) M Q := w_goto mC_117 d117_35 (by decide)
theorem d117_38 : decode cX11_drawn 38 = .ok (.iconst 0, 1) := by decide +kernel
theorem k117_38 {d : Nat} {l0 l1 l2 l3 l4 l5 l6 l7 l8 l9 : Option PV} {st : List PV} {M : Mem} {Q : Option PV → Mem → Prop} : WP d 117 38 [l0, l1, l2, l3, l4, l5, l6, l7, l8, l9] (st) M Q = WP d 117 39 [l0, l1, l2, l3, l4, l5, l6, l7, l8, l9] (vi 0 :: st) M Q := w_iconst mC_117 d117_38 (by decide)
theorem d117_39 : decode cX11_drawn 39 = .ok (.istore 5, 2) := by decide +kernel
theorem k117_39 {d : Nat} {l0 l1 l2 l3 l4 l5 l6 l7 l8 l9 : Option PV} {st : List PV} {M : Mem} {Q : Option PV → Mem → Prop} {x : Int32} : WP d 117 39 [l0, l1, l2, l3, l4, l5, l6, l7, l8, l9] (vi x :: st) M Q = WP d 117 41 [l0, l1, l2, l3, l4, some (vi x), l6, l7, l8, l9] (st) M Q := w1 mC_117 d117_39 rfl rfl
theorem d117_41 : decode cX11_drawn 41 = .ok (.iload 5, 2) := by decide +kernel
theorem k117_41 {d : Nat} {x : Int32} {l0 l1 l2 l3 l4 l6 l7 l8 l9 : Option PV} {st : List PV} {M : Mem} {Q : Option PV → Mem → Prop} : WP d 117 41 [l0, l1, l2, l3, l4, some (vi x), l6, l7, l8, l9] (st) M Q = WP d 117 43 [l0, l1, l2, l3, l4, some (vi x), l6, l7, l8, l9] (vi x :: st) M Q := w1 mC_117 d117_41 rfl rfl
theorem d117_43 : decode cX11_drawn 43 = .ok (.ifCond .eq 19, 3) := by decide +kernel
theorem k117_43 {d : Nat} {l0 l1 l2 l3 l4 l5 l6 l7 l8 l9 : Option PV} {st : List PV} {M : Mem} {Q : Option PV → Mem → Prop} {x : Int32} : WP d 117 43 [l0, l1, l2, l3, l4, l5, l6, l7, l8, l9] (vi x :: st) M Q = (if x = 0 then WP d 117 62 [l0, l1, l2, l3, l4, l5, l6, l7, l8, l9] (st) M Q else WP d 117 46 [l0, l1, l2, l3, l4, l5, l6, l7, l8, l9] (st) M Q) := w_if_eq mC_117 d117_43 (by decide)
theorem d117_46 : decode cX11_drawn 46 = .ok (.iload_n 3, 1) := by decide +kernel
theorem k117_46 {d : Nat} {x : Int32} {l0 l1 l2 l4 l5 l6 l7 l8 l9 : Option PV} {st : List PV} {M : Mem} {Q : Option PV → Mem → Prop} : WP d 117 46 [l0, l1, l2, some (vi x), l4, l5, l6, l7, l8, l9] (st) M Q = WP d 117 47 [l0, l1, l2, some (vi x), l4, l5, l6, l7, l8, l9] (vi x :: st) M Q := w1 mC_117 d117_46 rfl rfl
theorem d117_47 : decode cX11_drawn 47 = .ok (.iconst (-1), 1) := by decide +kernel
theorem k117_47 {d : Nat} {l0 l1 l2 l3 l4 l5 l6 l7 l8 l9 : Option PV} {st : List PV} {M : Mem} {Q : Option PV → Mem → Prop} : WP d 117 47 [l0, l1, l2, l3, l4, l5, l6, l7, l8, l9] (st) M Q = WP d 117 48 [l0, l1, l2, l3, l4, l5, l6, l7, l8, l9] (vi (-1) :: st) M Q := w_iconst mC_117 d117_47 (by decide)
theorem d117_48 : decode cX11_drawn 48 = .ok (.if_icmp .eq 16, 3) := by decide +kernel
theorem k117_48 {d : Nat} {l0 l1 l2 l3 l4 l5 l6 l7 l8 l9 : Option PV} {st : List PV} {M : Mem} {Q : Option PV → Mem → Prop} {x y : Int32} : WP d 117 48 [l0, l1, l2, l3, l4, l5, l6, l7, l8, l9] (vi y :: vi x :: st) M Q = (if x = y then WP d 117 64 [l0, l1, l2, l3, l4, l5, l6, l7, l8, l9] (st) M Q else WP d 117 51 [l0, l1, l2, l3, l4, l5, l6, l7, l8, l9] (st) M Q) := w_ic_eq mC_117 d117_48 (by decide)
theorem d117_51 : decode cX11_drawn 51 = .ok (.aload_n 0, 1) := by decide +kernel
theorem k117_51 {d x : Nat} {l1 l2 l3 l4 l5 l6 l7 l8 l9 : Option PV} {st : List PV} {M : Mem} {Q : Option PV → Mem → Prop} : WP d 117 51 [some (vr x), l1, l2, l3, l4, l5, l6, l7, l8, l9] (st) M Q = WP d 117 52 [some (vr x), l1, l2, l3, l4, l5, l6, l7, l8, l9] (vr x :: st) M Q := w1 mC_117 d117_51 rfl rfl
theorem d117_52 : decode cX11_drawn 52 = .ok (.getfield 10, 3) := by decide +kernel
theorem k117_52 {d : Nat} {l0 l1 l2 l3 l4 l5 l6 l7 l8 l9 : Option PV} {st : List PV} {M : Mem} {Q : Option PV → Mem → Prop} {r : Nat} (hk : mK M r = 11) : WP d 117 52 [l0, l1, l2, l3, l4, l5, l6, l7, l8, l9] (vr r :: st) M Q = WP d 117 55 [l0, l1, l2, l3, l4, l5, l6, l7, l8, l9] (vr (mR M r 0) :: st) M Q := w_getr mC_117 d117_52 fE_11_10 rfl (by rw [hk]; rfl)
theorem d117_55 : decode cX11_drawn 55 = .ok (.iload_n 3, 1) := by decide +kernel
theorem k117_55 {d : Nat} {x : Int32} {l0 l1 l2 l4 l5 l6 l7 l8 l9 : Option PV} {st : List PV} {M : Mem} {Q : Option PV → Mem → Prop} : WP d 117 55 [l0, l1, l2, some (vi x), l4, l5, l6, l7, l8, l9] (st) M Q = WP d 117 56 [l0, l1, l2, some (vi x), l4, l5, l6, l7, l8, l9] (vi x :: st) M Q := w1 mC_117 d117_55 rfl rfl
theorem d117_56 : decode cX11_drawn 56 = .ok (.invokevirtual 117, 3) := by decide +kernel
theorem k117_56 {d : Nat} {l0 l1 l2 l3 l4 l5 l6 l7 l8 l9 : Option PV} {st : List PV} {M : Mem} {Q : Option PV → Mem → Prop} {a0 : Int32} {r : Nat} (hl : szL st ≤ 8) (hk : mK M r = 4) : WP (d + 1) 117 56 [l0, l1, l2, l3, l4, l5, l6, l7, l8, l9] (vi a0 :: vr r :: st) M Q = WP d 24 0 [some (vr r), some (vi a0)] [] M (fun v M' => WP (d + 1) 117 59 [l0, l1, l2, l3, l4, l5, l6, l7, l8, l9] (psh v st) M' Q) := w_callV mC_117 d117_56 (ci := 4) rfl rfl rfl (Nat.le_of_ble_eq_true rfl) (by decide) rfl hl (Or.inl hk)
theorem d117_59 : decode cX11_drawn 59 = .ok (.ifCond .ne 5, 3) := by decide +kernel
theorem k117_59 {d : Nat} {l0 l1 l2 l3 l4 l5 l6 l7 l8 l9 : Option PV} {st : List PV} {M : Mem} {Q : Option PV → Mem → Prop} {x : Int32} : WP d 117 59 [l0, l1, l2, l3, l4, l5, l6, l7, l8, l9] (vi x :: st) M Q = (if x = 0 then WP d 117 62 [l0, l1, l2, l3, l4, l5, l6, l7, l8, l9] (st) M Q else WP d 117 64 [l0, l1, l2, l3, l4, l5, l6, l7, l8, l9] (st) M Q) := w_if_ne mC_117 d117_59 (by decide)
theorem d117_62 : decode cX11_drawn 62 = .ok (.iconst (-1), 1) := by decide +kernel
theorem k117_62 {d : Nat} {l0 l1 l2 l3 l4 l5 l6 l7 l8 l9 : Option PV} {st : List PV} {M : Mem} {Q : Option PV → Mem → Prop} : WP d 117 62 [l0, l1, l2, l3, l4, l5, l6, l7, l8, l9] (st) M Q = WP d 117 63 [l0, l1, l2, l3, l4, l5, l6, l7, l8, l9] (vi (-1) :: st) M Q := w_iconst mC_117 d117_62 (by decide)
theorem d117_63 : decode cX11_drawn 63 = .ok (.ireturn, 1) := by decide +kernel
theorem k117_63 {d : Nat} {l0 l1 l2 l3 l4 l5 l6 l7 l8 l9 : Option PV} {M : Mem} {Q : Option PV → Mem → Prop} {x : Int32} : WP d 117 63 [l0, l1, l2, l3, l4, l5, l6, l7, l8, l9] ([vi x]) M Q = Q (some (vi x)) M := w_iret mC_117 d117_63 rfl
theorem d117_64 : decode cX11_drawn 64 = .ok (.iload_n 1, 1) := by decide +kernel
theorem k117_64 {d : Nat} {x : Int32} {l0 l2 l3 l4 l5 l6 l7 l8 l9 : Option PV} {st : List PV} {M : Mem} {Q : Option PV → Mem → Prop} : WP d 117 64 [l0, some (vi x), l2, l3, l4, l5, l6, l7, l8, l9] (st) M Q = WP d 117 65 [l0, some (vi x), l2, l3, l4, l5, l6, l7, l8, l9] (vi x :: st) M Q := w1 mC_117 d117_64 rfl rfl
theorem d117_65 : decode cX11_drawn 65 = .ok (.istore 6, 2) := by decide +kernel
theorem k117_65 {d : Nat} {l0 l1 l2 l3 l4 l5 l6 l7 l8 l9 : Option PV} {st : List PV} {M : Mem} {Q : Option PV → Mem → Prop} {x : Int32} : WP d 117 65 [l0, l1, l2, l3, l4, l5, l6, l7, l8, l9] (vi x :: st) M Q = WP d 117 67 [l0, l1, l2, l3, l4, l5, some (vi x), l7, l8, l9] (st) M Q := w1 mC_117 d117_65 rfl rfl
theorem d117_67 : decode cX11_drawn 67 = .ok (.iconst 0, 1) := by decide +kernel
theorem k117_67 {d : Nat} {l0 l1 l2 l3 l4 l5 l6 l7 l8 l9 : Option PV} {st : List PV} {M : Mem} {Q : Option PV → Mem → Prop} : WP d 117 67 [l0, l1, l2, l3, l4, l5, l6, l7, l8, l9] (st) M Q = WP d 117 68 [l0, l1, l2, l3, l4, l5, l6, l7, l8, l9] (vi 0 :: st) M Q := w_iconst mC_117 d117_67 (by decide)
theorem d117_68 : decode cX11_drawn 68 = .ok (.istore 7, 2) := by decide +kernel
theorem k117_68 {d : Nat} {l0 l1 l2 l3 l4 l5 l6 l7 l8 l9 : Option PV} {st : List PV} {M : Mem} {Q : Option PV → Mem → Prop} {x : Int32} : WP d 117 68 [l0, l1, l2, l3, l4, l5, l6, l7, l8, l9] (vi x :: st) M Q = WP d 117 70 [l0, l1, l2, l3, l4, l5, l6, some (vi x), l8, l9] (st) M Q := w1 mC_117 d117_68 rfl rfl
theorem d117_70 : decode cX11_drawn 70 = .ok (.iconst 0, 1) := by decide +kernel
theorem k117_70 {d : Nat} {l0 l1 l2 l3 l4 l5 l6 l7 l8 l9 : Option PV} {st : List PV} {M : Mem} {Q : Option PV → Mem → Prop} : WP d 117 70 [l0, l1, l2, l3, l4, l5, l6, l7, l8, l9] (st) M Q = WP d 117 71 [l0, l1, l2, l3, l4, l5, l6, l7, l8, l9] (vi 0 :: st) M Q := w_iconst mC_117 d117_70 (by decide)
theorem d117_71 : decode cX11_drawn 71 = .ok (.istore 8, 2) := by decide +kernel
theorem k117_71 {d : Nat} {l0 l1 l2 l3 l4 l5 l6 l7 l8 l9 : Option PV} {st : List PV} {M : Mem} {Q : Option PV → Mem → Prop} {x : Int32} : WP d 117 71 [l0, l1, l2, l3, l4, l5, l6, l7, l8, l9] (vi x :: st) M Q = WP d 117 73 [l0, l1, l2, l3, l4, l5, l6, l7, some (vi x), l9] (st) M Q := w1 mC_117 d117_71 rfl rfl
theorem d117_73 : decode cX11_drawn 73 = .ok (.iload 8, 2) := by decide +kernel
theorem k117_73 {d : Nat} {x : Int32} {l0 l1 l2 l3 l4 l5 l6 l7 l9 : Option PV} {st : List PV} {M : Mem} {Q : Option PV → Mem → Prop} : WP d 117 73 [l0, l1, l2, l3, l4, l5, l6, l7, some (vi x), l9] (st) M Q = WP d 117 75 [l0, l1, l2, l3, l4, l5, l6, l7, some (vi x), l9] (vi x :: st) M Q := w1 mC_117 d117_73 rfl rfl
theorem d117_75 : decode cX11_drawn 75 = .ok (.iload_n 2, 1) := by decide +kernel
theorem k117_75 {d : Nat} {x : Int32} {l0 l1 l3 l4 l5 l6 l7 l8 l9 : Option PV} {st : List PV} {M : Mem} {Q : Option PV → Mem → Prop} : WP d 117 75 [l0, l1, some (vi x), l3, l4, l5, l6, l7, l8, l9] (st) M Q = WP d 117 76 [l0, l1, some (vi x), l3, l4, l5, l6, l7, l8, l9] (vi x :: st) M Q := w1 mC_117 d117_75 rfl rfl
theorem d117_76 : decode cX11_drawn 76 = .ok (.sipush 10000, 3) := by decide +kernel
theorem k117_76 {d : Nat} {l0 l1 l2 l3 l4 l5 l6 l7 l8 l9 : Option PV} {st : List PV} {M : Mem} {Q : Option PV → Mem → Prop} : WP d 117 76 [l0, l1, l2, l3, l4, l5, l6, l7, l8, l9] (st) M Q = WP d 117 79 [l0, l1, l2, l3, l4, l5, l6, l7, l8, l9] (vi 10000 :: st) M Q := w_sipush mC_117 d117_76 (by decide)
theorem d117_79 : decode cX11_drawn 79 = .ok (.idiv, 1) := by decide +kernel
theorem k117_79 {d : Nat} {l0 l1 l2 l3 l4 l5 l6 l7 l8 l9 : Option PV} {st : List PV} {M : Mem} {Q : Option PV → Mem → Prop} {x y : Int32} (h : y ≠ 0) : WP d 117 79 [l0, l1, l2, l3, l4, l5, l6, l7, l8, l9] (vi y :: vi x :: st) M Q = WP d 117 80 [l0, l1, l2, l3, l4, l5, l6, l7, l8, l9] (vi (x / y) :: st) M Q := w_div mC_117 d117_79 h
theorem d117_80 : decode cX11_drawn 80 = .ok (.if_icmp .ge 105, 3) := by decide +kernel
theorem k117_80 {d : Nat} {l0 l1 l2 l3 l4 l5 l6 l7 l8 l9 : Option PV} {st : List PV} {M : Mem} {Q : Option PV → Mem → Prop} {x y : Int32} : WP d 117 80 [l0, l1, l2, l3, l4, l5, l6, l7, l8, l9] (vi y :: vi x :: st) M Q = (if y ≤ x then WP d 117 185 [l0, l1, l2, l3, l4, l5, l6, l7, l8, l9] (st) M Q else WP d 117 83 [l0, l1, l2, l3, l4, l5, l6, l7, l8, l9] (st) M Q) := w_ic_ge mC_117 d117_80 (by decide)
theorem d117_83 : decode cX11_drawn 83 = .ok (.aload_n 0, 1) := by decide +kernel
theorem k117_83 {d x : Nat} {l1 l2 l3 l4 l5 l6 l7 l8 l9 : Option PV} {st : List PV} {M : Mem} {Q : Option PV → Mem → Prop} : WP d 117 83 [some (vr x), l1, l2, l3, l4, l5, l6, l7, l8, l9] (st) M Q = WP d 117 84 [some (vr x), l1, l2, l3, l4, l5, l6, l7, l8, l9] (vr x :: st) M Q := w1 mC_117 d117_83 rfl rfl
theorem d117_84 : decode cX11_drawn 84 = .ok (.getfield 16, 3) := by decide +kernel
theorem k117_84 {d : Nat} {l0 l1 l2 l3 l4 l5 l6 l7 l8 l9 : Option PV} {st : List PV} {M : Mem} {Q : Option PV → Mem → Prop} {r : Nat} (hk : mK M r = 11) : WP d 117 84 [l0, l1, l2, l3, l4, l5, l6, l7, l8, l9] (vr r :: st) M Q = WP d 117 87 [l0, l1, l2, l3, l4, l5, l6, l7, l8, l9] (vr (mR M r 1) :: st) M Q := w_getr mC_117 d117_84 fE_11_16 rfl (by rw [hk]; rfl)
theorem d117_87 : decode cX11_drawn 87 = .ok (.aload_n 0, 1) := by decide +kernel
theorem k117_87 {d x : Nat} {l1 l2 l3 l4 l5 l6 l7 l8 l9 : Option PV} {st : List PV} {M : Mem} {Q : Option PV → Mem → Prop} : WP d 117 87 [some (vr x), l1, l2, l3, l4, l5, l6, l7, l8, l9] (st) M Q = WP d 117 88 [some (vr x), l1, l2, l3, l4, l5, l6, l7, l8, l9] (vr x :: st) M Q := w1 mC_117 d117_87 rfl rfl
theorem d117_88 : decode cX11_drawn 88 = .ok (.getfield 10, 3) := by decide +kernel
theorem k117_88 {d : Nat} {l0 l1 l2 l3 l4 l5 l6 l7 l8 l9 : Option PV} {st : List PV} {M : Mem} {Q : Option PV → Mem → Prop} {r : Nat} (hk : mK M r = 11) : WP d 117 88 [l0, l1, l2, l3, l4, l5, l6, l7, l8, l9] (vr r :: st) M Q = WP d 117 91 [l0, l1, l2, l3, l4, l5, l6, l7, l8, l9] (vr (mR M r 0) :: st) M Q := w_getr mC_117 d117_88 fE_11_10 rfl (by rw [hk]; rfl)
theorem d117_91 : decode cX11_drawn 91 = .ok (.invokevirtual 151, 3) := by decide +kernel
theorem k117_91 {d : Nat} {l0 l1 l2 l3 l4 l5 l6 l7 l8 l9 : Option PV} {st : List PV} {M : Mem} {Q : Option PV → Mem → Prop} {a0 : Nat} {r : Nat} (hl : szL st ≤ 8) (hk : mK M r = 4) : WP (d + 1) 117 91 [l0, l1, l2, l3, l4, l5, l6, l7, l8, l9] (vr a0 :: vr r :: st) M Q = WP d 31 0 [some (vr r), some (vr a0)] [] M (fun v M' => WP (d + 1) 117 94 [l0, l1, l2, l3, l4, l5, l6, l7, l8, l9] (psh v st) M' Q) := w_callV mC_117 d117_91 (ci := 4) rfl rfl rfl (Nat.le_of_ble_eq_true rfl) (by decide) rfl hl (Or.inl hk)
theorem d117_94 : decode cX11_drawn 94 = .ok (.iconst 0, 1) := by decide +kernel
theorem k117_94 {d : Nat} {l0 l1 l2 l3 l4 l5 l6 l7 l8 l9 : Option PV} {st : List PV} {M : Mem} {Q : Option PV → Mem → Prop} : WP d 117 94 [l0, l1, l2, l3, l4, l5, l6, l7, l8, l9] (st) M Q = WP d 117 95 [l0, l1, l2, l3, l4, l5, l6, l7, l8, l9] (vi 0 :: st) M Q := w_iconst mC_117 d117_94 (by decide)
theorem d117_95 : decode cX11_drawn 95 = .ok (.istore 9, 2) := by decide +kernel
theorem k117_95 {d : Nat} {l0 l1 l2 l3 l4 l5 l6 l7 l8 l9 : Option PV} {st : List PV} {M : Mem} {Q : Option PV → Mem → Prop} {x : Int32} : WP d 117 95 [l0, l1, l2, l3, l4, l5, l6, l7, l8, l9] (vi x :: st) M Q = WP d 117 97 [l0, l1, l2, l3, l4, l5, l6, l7, l8, some (vi x)] (st) M Q := w1 mC_117 d117_95 rfl rfl
theorem d117_97 : decode cX11_drawn 97 = .ok (.iload 9, 2) := by decide +kernel
theorem k117_97 {d : Nat} {x : Int32} {l0 l1 l2 l3 l4 l5 l6 l7 l8 : Option PV} {st : List PV} {M : Mem} {Q : Option PV → Mem → Prop} : WP d 117 97 [l0, l1, l2, l3, l4, l5, l6, l7, l8, some (vi x)] (st) M Q = WP d 117 99 [l0, l1, l2, l3, l4, l5, l6, l7, l8, some (vi x)] (vi x :: st) M Q := w1 mC_117 d117_97 rfl rfl
theorem d117_99 : decode cX11_drawn 99 = .ok (.iload 4, 2) := by decide +kernel
theorem k117_99 {d : Nat} {x : Int32} {l0 l1 l2 l3 l5 l6 l7 l8 l9 : Option PV} {st : List PV} {M : Mem} {Q : Option PV → Mem → Prop} : WP d 117 99 [l0, l1, l2, l3, some (vi x), l5, l6, l7, l8, l9] (st) M Q = WP d 117 101 [l0, l1, l2, l3, some (vi x), l5, l6, l7, l8, l9] (vi x :: st) M Q := w1 mC_117 d117_99 rfl rfl
theorem d117_101 : decode cX11_drawn 101 = .ok (.if_icmp .ge 46, 3) := by decide +kernel
theorem k117_101 {d : Nat} {l0 l1 l2 l3 l4 l5 l6 l7 l8 l9 : Option PV} {st : List PV} {M : Mem} {Q : Option PV → Mem → Prop} {x y : Int32} : WP d 117 101 [l0, l1, l2, l3, l4, l5, l6, l7, l8, l9] (vi y :: vi x :: st) M Q = (if y ≤ x then WP d 117 147 [l0, l1, l2, l3, l4, l5, l6, l7, l8, l9] (st) M Q else WP d 117 104 [l0, l1, l2, l3, l4, l5, l6, l7, l8, l9] (st) M Q) := w_ic_ge mC_117 d117_101 (by decide)
theorem d117_104 : decode cX11_drawn 104 = .ok (.iload 6, 2) := by decide +kernel
theorem k117_104 {d : Nat} {x : Int32} {l0 l1 l2 l3 l4 l5 l7 l8 l9 : Option PV} {st : List PV} {M : Mem} {Q : Option PV → Mem → Prop} : WP d 117 104 [l0, l1, l2, l3, l4, l5, some (vi x), l7, l8, l9] (st) M Q = WP d 117 106 [l0, l1, l2, l3, l4, l5, some (vi x), l7, l8, l9] (vi x :: st) M Q := w1 mC_117 d117_104 rfl rfl
theorem d117_106 : decode cX11_drawn 106 = .ok (.ldc_w 287, 3) := by decide +kernel
theorem k117_106 {d : Nat} {l0 l1 l2 l3 l4 l5 l6 l7 l8 l9 : Option PV} {st : List PV} {M : Mem} {Q : Option PV → Mem → Prop} : WP d 117 106 [l0, l1, l2, l3, l4, l5, l6, l7, l8, l9] (st) M Q = WP d 117 109 [l0, l1, l2, l3, l4, l5, l6, l7, l8, l9] (vi 1103515245 :: st) M Q := w_ldcw mC_117 d117_106 rfl
theorem d117_109 : decode cX11_drawn 109 = .ok (.imul, 1) := by decide +kernel
theorem k117_109 {d : Nat} {l0 l1 l2 l3 l4 l5 l6 l7 l8 l9 : Option PV} {st : List PV} {M : Mem} {Q : Option PV → Mem → Prop} {x y : Int32} : WP d 117 109 [l0, l1, l2, l3, l4, l5, l6, l7, l8, l9] (vi y :: vi x :: st) M Q = WP d 117 110 [l0, l1, l2, l3, l4, l5, l6, l7, l8, l9] (vi (x * y) :: st) M Q := w1 mC_117 d117_109 rfl rfl
theorem d117_110 : decode cX11_drawn 110 = .ok (.sipush 12345, 3) := by decide +kernel
theorem k117_110 {d : Nat} {l0 l1 l2 l3 l4 l5 l6 l7 l8 l9 : Option PV} {st : List PV} {M : Mem} {Q : Option PV → Mem → Prop} : WP d 117 110 [l0, l1, l2, l3, l4, l5, l6, l7, l8, l9] (st) M Q = WP d 117 113 [l0, l1, l2, l3, l4, l5, l6, l7, l8, l9] (vi 12345 :: st) M Q := w_sipush mC_117 d117_110 (by decide)
theorem d117_113 : decode cX11_drawn 113 = .ok (.iadd, 1) := by decide +kernel
theorem k117_113 {d : Nat} {l0 l1 l2 l3 l4 l5 l6 l7 l8 l9 : Option PV} {st : List PV} {M : Mem} {Q : Option PV → Mem → Prop} {x y : Int32} : WP d 117 113 [l0, l1, l2, l3, l4, l5, l6, l7, l8, l9] (vi y :: vi x :: st) M Q = WP d 117 114 [l0, l1, l2, l3, l4, l5, l6, l7, l8, l9] (vi (x + y) :: st) M Q := w1 mC_117 d117_113 rfl rfl
theorem d117_114 : decode cX11_drawn 114 = .ok (.istore 6, 2) := by decide +kernel
theorem k117_114 {d : Nat} {l0 l1 l2 l3 l4 l5 l6 l7 l8 l9 : Option PV} {st : List PV} {M : Mem} {Q : Option PV → Mem → Prop} {x : Int32} : WP d 117 114 [l0, l1, l2, l3, l4, l5, l6, l7, l8, l9] (vi x :: st) M Q = WP d 117 116 [l0, l1, l2, l3, l4, l5, some (vi x), l7, l8, l9] (st) M Q := w1 mC_117 d117_114 rfl rfl
theorem d117_116 : decode cX11_drawn 116 = .ok (.aload_n 0, 1) := by decide +kernel
theorem k117_116 {d x : Nat} {l1 l2 l3 l4 l5 l6 l7 l8 l9 : Option PV} {st : List PV} {M : Mem} {Q : Option PV → Mem → Prop} : WP d 117 116 [some (vr x), l1, l2, l3, l4, l5, l6, l7, l8, l9] (st) M Q = WP d 117 117 [some (vr x), l1, l2, l3, l4, l5, l6, l7, l8, l9] (vr x :: st) M Q := w1 mC_117 d117_116 rfl rfl
theorem d117_117 : decode cX11_drawn 117 = .ok (.getfield 16, 3) := by decide +kernel
theorem k117_117 {d : Nat} {l0 l1 l2 l3 l4 l5 l6 l7 l8 l9 : Option PV} {st : List PV} {M : Mem} {Q : Option PV → Mem → Prop} {r : Nat} (hk : mK M r = 11) : WP d 117 117 [l0, l1, l2, l3, l4, l5, l6, l7, l8, l9] (vr r :: st) M Q = WP d 117 120 [l0, l1, l2, l3, l4, l5, l6, l7, l8, l9] (vr (mR M r 1) :: st) M Q := w_getr mC_117 d117_117 fE_11_16 rfl (by rw [hk]; rfl)
theorem d117_120 : decode cX11_drawn 120 = .ok (.iload 6, 2) := by decide +kernel
theorem k117_120 {d : Nat} {x : Int32} {l0 l1 l2 l3 l4 l5 l7 l8 l9 : Option PV} {st : List PV} {M : Mem} {Q : Option PV → Mem → Prop} : WP d 117 120 [l0, l1, l2, l3, l4, l5, some (vi x), l7, l8, l9] (st) M Q = WP d 117 122 [l0, l1, l2, l3, l4, l5, some (vi x), l7, l8, l9] (vi x :: st) M Q := w1 mC_117 d117_120 rfl rfl
theorem d117_122 : decode cX11_drawn 122 = .ok (.iload_n 2, 1) := by decide +kernel
theorem k117_122 {d : Nat} {x : Int32} {l0 l1 l3 l4 l5 l6 l7 l8 l9 : Option PV} {st : List PV} {M : Mem} {Q : Option PV → Mem → Prop} : WP d 117 122 [l0, l1, some (vi x), l3, l4, l5, l6, l7, l8, l9] (st) M Q = WP d 117 123 [l0, l1, some (vi x), l3, l4, l5, l6, l7, l8, l9] (vi x :: st) M Q := w1 mC_117 d117_122 rfl rfl
theorem d117_123 : decode cX11_drawn 123 = .ok (.bipush 100, 2) := by decide +kernel
theorem k117_123 {d : Nat} {l0 l1 l2 l3 l4 l5 l6 l7 l8 l9 : Option PV} {st : List PV} {M : Mem} {Q : Option PV → Mem → Prop} : WP d 117 123 [l0, l1, l2, l3, l4, l5, l6, l7, l8, l9] (st) M Q = WP d 117 125 [l0, l1, l2, l3, l4, l5, l6, l7, l8, l9] (vi 100 :: st) M Q := w_bipush mC_117 d117_123 (by decide)
theorem d117_125 : decode cX11_drawn 125 = .ok (.irem, 1) := by decide +kernel
theorem k117_125 {d : Nat} {l0 l1 l2 l3 l4 l5 l6 l7 l8 l9 : Option PV} {st : List PV} {M : Mem} {Q : Option PV → Mem → Prop} {x y : Int32} (h : y ≠ 0) : WP d 117 125 [l0, l1, l2, l3, l4, l5, l6, l7, l8, l9] (vi y :: vi x :: st) M Q = WP d 117 126 [l0, l1, l2, l3, l4, l5, l6, l7, l8, l9] (vi (x % y) :: st) M Q := w_rem mC_117 d117_125 h
theorem d117_126 : decode cX11_drawn 126 = .ok (.invokevirtual 288, 3) := by decide +kernel
theorem k117_126 {d : Nat} {l0 l1 l2 l3 l4 l5 l6 l7 l8 l9 : Option PV} {st : List PV} {M : Mem} {Q : Option PV → Mem → Prop} {a0 a1 : Int32} {r : Nat} (hl : szL st ≤ 8) (hk : mK M r = 4) : WP (d + 1) 117 126 [l0, l1, l2, l3, l4, l5, l6, l7, l8, l9] (vi a1 :: vi a0 :: vr r :: st) M Q = WP d 39 0 [some (vr r), some (vi a0), some (vi a1)] [] M (fun v M' => WP (d + 1) 117 129 [l0, l1, l2, l3, l4, l5, l6, l7, l8, l9] (psh v st) M' Q) := w_callV mC_117 d117_126 (ci := 4) rfl rfl rfl (Nat.le_of_ble_eq_true rfl) (by decide) rfl hl (Or.inl hk)
theorem d117_129 : decode cX11_drawn 129 = .ok (.aload_n 0, 1) := by decide +kernel
theorem k117_129 {d x : Nat} {l1 l2 l3 l4 l5 l6 l7 l8 l9 : Option PV} {st : List PV} {M : Mem} {Q : Option PV → Mem → Prop} : WP d 117 129 [some (vr x), l1, l2, l3, l4, l5, l6, l7, l8, l9] (st) M Q = WP d 117 130 [some (vr x), l1, l2, l3, l4, l5, l6, l7, l8, l9] (vr x :: st) M Q := w1 mC_117 d117_129 rfl rfl
theorem d117_130 : decode cX11_drawn 130 = .ok (.getfield 16, 3) := by decide +kernel
theorem k117_130 {d : Nat} {l0 l1 l2 l3 l4 l5 l6 l7 l8 l9 : Option PV} {st : List PV} {M : Mem} {Q : Option PV → Mem → Prop} {r : Nat} (hk : mK M r = 11) : WP d 117 130 [l0, l1, l2, l3, l4, l5, l6, l7, l8, l9] (vr r :: st) M Q = WP d 117 133 [l0, l1, l2, l3, l4, l5, l6, l7, l8, l9] (vr (mR M r 1) :: st) M Q := w_getr mC_117 d117_130 fE_11_16 rfl (by rw [hk]; rfl)
theorem d117_133 : decode cX11_drawn 133 = .ok (.aload_n 0, 1) := by decide +kernel
theorem k117_133 {d x : Nat} {l1 l2 l3 l4 l5 l6 l7 l8 l9 : Option PV} {st : List PV} {M : Mem} {Q : Option PV → Mem → Prop} : WP d 117 133 [some (vr x), l1, l2, l3, l4, l5, l6, l7, l8, l9] (st) M Q = WP d 117 134 [some (vr x), l1, l2, l3, l4, l5, l6, l7, l8, l9] (vr x :: st) M Q := w1 mC_117 d117_133 rfl rfl
theorem d117_134 : decode cX11_drawn 134 = .ok (.getfield 25, 3) := by decide +kernel
theorem k117_134 {d : Nat} {l0 l1 l2 l3 l4 l5 l6 l7 l8 l9 : Option PV} {st : List PV} {M : Mem} {Q : Option PV → Mem → Prop} {r : Nat} (hk : mK M r = 11) : WP d 117 134 [l0, l1, l2, l3, l4, l5, l6, l7, l8, l9] (vr r :: st) M Q = WP d 117 137 [l0, l1, l2, l3, l4, l5, l6, l7, l8, l9] (vr (mR M r 4) :: st) M Q := w_getr mC_117 d117_134 fE_11_25 rfl (by rw [hk]; rfl)
theorem d117_137 : decode cX11_drawn 137 = .ok (.invokevirtual 155, 3) := by decide +kernel
theorem k117_137 {d : Nat} {l0 l1 l2 l3 l4 l5 l6 l7 l8 l9 : Option PV} {st : List PV} {M : Mem} {Q : Option PV → Mem → Prop} {a0 : Nat} {r : Nat} (hl : szL st ≤ 8) (hk : mK M r = 4) : WP (d + 1) 117 137 [l0, l1, l2, l3, l4, l5, l6, l7, l8, l9] (vr a0 :: vr r :: st) M Q = WP d 44 0 [some (vr r), some (vr a0), none, none] [] M (fun v M' => WP (d + 1) 117 140 [l0, l1, l2, l3, l4, l5, l6, l7, l8, l9] (psh v st) M' Q) := w_callV mC_117 d117_137 (ci := 4) rfl rfl rfl (Nat.le_of_ble_eq_true rfl) (by decide) rfl hl (Or.inl hk)
theorem d117_140 : decode cX11_drawn 140 = .ok (.pop, 1) := by decide +kernel
theorem k117_140 {d : Nat} {l0 l1 l2 l3 l4 l5 l6 l7 l8 l9 : Option PV} {st : List PV} {M : Mem} {Q : Option PV → Mem → Prop} {x : Nat} : WP d 117 140 [l0, l1, l2, l3, l4, l5, l6, l7, l8, l9] (vr x :: st) M Q = WP d 117 141 [l0, l1, l2, l3, l4, l5, l6, l7, l8, l9] (st) M Q := w1 mC_117 d117_140 rfl rfl
theorem k117_140i {d : Nat} {l0 l1 l2 l3 l4 l5 l6 l7 l8 l9 : Option PV} {st : List PV} {M : Mem} {Q : Option PV → Mem → Prop} {x : Int32} : WP d 117 140 [l0, l1, l2, l3, l4, l5, l6, l7, l8, l9] (vi x :: st) M Q = WP d 117 141 [l0, l1, l2, l3, l4, l5, l6, l7, l8, l9] (st) M Q := w1 mC_117 d117_140 rfl rfl
theorem d117_141 : decode cX11_drawn 141 = .ok (.iinc 9 1, 3) := by decide +kernel
theorem k117_141 {d : Nat} {x : Int32} {l0 l1 l2 l3 l4 l5 l6 l7 l8 : Option PV} {st : List PV} {M : Mem} {Q : Option PV → Mem → Prop} : WP d 117 141 [l0, l1, l2, l3, l4, l5, l6, l7, l8, some (vi x)] (st) M Q = WP d 117 144 [l0, l1, l2, l3, l4, l5, l6, l7, l8, some (vi (x + 1))] (st) M Q := w_iinc mC_117 d117_141 rfl (by decide) rfl
theorem d117_144 : decode cX11_drawn 144 = .ok (.goto (-47), 3) := by decide +kernel
theorem k117_144 {d : Nat} {l0 l1 l2 l3 l4 l5 l6 l7 l8 l9 : Option PV} {st : List PV} {M : Mem} {Q : Option PV → Mem → Prop} : WP d 117 144 [l0, l1, l2, l3, l4, l5, l6, l7, l8, l9] (st) M Q = WP d 117 97 [l0, l1, l2, l3, l4, l5, l6, l7, l8, l9] (st) M Q := w_goto mC_117 d117_144 (by decide)
theorem d117_147 : decode cX11_drawn 147 = .ok (.iload 7, 2) := by decide +kernel
theorem k117_147 {d : Nat} {x : Int32} {l0 l1 l2 l3 l4 l5 l6 l8 l9 : Option PV} {st : List PV} {M : Mem} {Q : Option PV → Mem → Prop} : WP d 117 147 [l0, l1, l2, l3, l4, l5, l6, some (vi x), l8, l9] (st) M Q = WP d 117 149 [l0, l1, l2, l3, l4, l5, l6, some (vi x), l8, l9] (vi x :: st) M Q := w1 mC_117 d117_147 rfl rfl
theorem d117_149 : decode cX11_drawn 149 = .ok (.iload_n 3, 1) := by decide +kernel
theorem k117_149 {d : Nat} {x : Int32} {l0 l1 l2 l4 l5 l6 l7 l8 l9 : Option PV} {st : List PV} {M : Mem} {Q : Option PV → Mem → Prop} : WP d 117 149 [l0, l1, l2, some (vi x), l4, l5, l6, l7, l8, l9] (st) M Q = WP d 117 150 [l0, l1, l2, some (vi x), l4, l5, l6, l7, l8, l9] (vi x :: st) M Q := w1 mC_117 d117_149 rfl rfl
theorem d117_150 : decode cX11_drawn 150 = .ok (.iconst (-1), 1) := by decide +kernel
theorem k117_150 {d : Nat} {l0 l1 l2 l3 l4 l5 l6 l7 l8 l9 : Option PV} {st : List PV} {M : Mem} {Q : Option PV → Mem → Prop} : WP d 117 150 [l0, l1, l2, l3, l4, l5, l6, l7, l8, l9] (st) M Q = WP d 117 151 [l0, l1, l2, l3, l4, l5, l6, l7, l8, l9] (vi (-1) :: st) M Q := w_iconst mC_117 d117_150 (by decide)
theorem d117_151 : decode cX11_drawn 151 = .ok (.if_icmp .ne 16, 3) := by decide +kernel
theorem k117_151 {d : Nat} {l0 l1 l2 l3 l4 l5 l6 l7 l8 l9 : Option PV} {st : List PV} {M : Mem} {Q : Option PV → Mem → Prop} {x y : Int32} : WP d 117 151 [l0, l1, l2, l3, l4, l5, l6, l7, l8, l9] (vi y :: vi x :: st) M Q = (if x = y then WP d 117 154 [l0, l1, l2, l3, l4, l5, l6, l7, l8, l9] (st) M Q else WP d 117 167 [l0, l1, l2, l3, l4, l5, l6, l7, l8, l9] (st) M Q) := w_ic_ne mC_117 d117_151 (by decide)
theorem d117_154 : decode cX11_drawn 154 = .ok (.aload_n 0, 1) := by decide +kernel
theorem k117_154 {d x : Nat} {l1 l2 l3 l4 l5 l6 l7 l8 l9 : Option PV} {st : List PV} {M : Mem} {Q : Option PV → Mem → Prop} : WP d 117 154 [some (vr x), l1, l2, l3, l4, l5, l6, l7, l8, l9] (st) M Q = WP d 117 155 [some (vr x), l1, l2, l3, l4, l5, l6, l7, l8, l9] (vr x :: st) M Q := w1 mC_117 d117_154 rfl rfl
theorem d117_155 : decode cX11_drawn 155 = .ok (.getfield 16, 3) := by decide +kernel
theorem k117_155 {d : Nat} {l0 l1 l2 l3 l4 l5 l6 l7 l8 l9 : Option PV} {st : List PV} {M : Mem} {Q : Option PV → Mem → Prop} {r : Nat} (hk : mK M r = 11) : WP d 117 155 [l0, l1, l2, l3, l4, l5, l6, l7, l8, l9] (vr r :: st) M Q = WP d 117 158 [l0, l1, l2, l3, l4, l5, l6, l7, l8, l9] (vr (mR M r 1) :: st) M Q := w_getr mC_117 d117_155 fE_11_16 rfl (by rw [hk]; rfl)
theorem d117_158 : decode cX11_drawn 158 = .ok (.invokevirtual 159, 3) := by decide +kernel
theorem k117_158 {d : Nat} {l0 l1 l2 l3 l4 l5 l6 l7 l8 l9 : Option PV} {st : List PV} {M : Mem} {Q : Option PV → Mem → Prop} {r : Nat} (hl : szL st ≤ 8) (hk : mK M r = 4) : WP (d + 1) 117 158 [l0, l1, l2, l3, l4, l5, l6, l7, l8, l9] (vr r :: st) M Q = WP d 35 0 [some (vr r), none, none] [] M (fun v M' => WP (d + 1) 117 161 [l0, l1, l2, l3, l4, l5, l6, l7, l8, l9] (psh v st) M' Q) := w_callV mC_117 d117_158 (ci := 4) rfl rfl rfl (Nat.le_of_ble_eq_true rfl) (by decide) rfl hl (Or.inl hk)
theorem d117_161 : decode cX11_drawn 161 = .ok (.invokestatic 229, 3) := by decide +kernel
theorem k117_161 {d : Nat} {l0 l1 l2 l3 l4 l5 l6 l7 l8 l9 : Option PV} {st : List PV} {M : Mem} {Q : Option PV → Mem → Prop} {a0 : Int32} (hl : szL st ≤ 8) : WP (d + 1) 117 161 [l0, l1, l2, l3, l4, l5, l6, l7, l8, l9] (vi a0 :: st) M Q = WP d 247 0 [some (vi a0)] [] M (fun v M' => WP (d + 1) 117 164 [l0, l1, l2, l3, l4, l5, l6, l7, l8, l9] (psh v st) M' Q) := w_callS mC_117 d117_161 rfl rfl (Nat.le_of_ble_eq_true rfl) (by decide) rfl hl
theorem d117_164 : decode cX11_drawn 164 = .ok (.goto 12, 3) := by decide +kernel
theorem k117_164 {d : Nat} {l0 l1 l2 l3 l4 l5 l6 l7 l8 l9 : Option PV} {st : List PV} {M : Mem} {Q : Option PV → Mem → Prop} : WP d 117 164 [l0, l1, l2, l3, l4, l5, l6, l7, l8, l9] (st) M Q = WP d 117 176 [l0, l1, l2, l3, l4, l5, l6, l7, l8, l9] (st) M Q := w_goto mC_117 d117_164 (by decide)
theorem d117_167 : decode cX11_drawn 167 = .ok (.aload_n 0, 1) := by decide +kernel
theorem k117_167 {d x : Nat} {l1 l2 l3 l4 l5 l6 l7 l8 l9 : Option PV} {st : List PV} {M : Mem} {Q : Option PV → Mem → Prop} : WP d 117 167 [some (vr x), l1, l2, l3, l4, l5, l6, l7, l8, l9] (st) M Q = WP d 117 168 [some (vr x), l1, l2, l3, l4, l5, l6, l7, l8, l9] (vr x :: st) M Q := w1 mC_117 d117_167 rfl rfl
theorem d117_168 : decode cX11_drawn 168 = .ok (.getfield 16, 3) := by decide +kernel
theorem k117_168 {d : Nat} {l0 l1 l2 l3 l4 l5 l6 l7 l8 l9 : Option PV} {st : List PV} {M : Mem} {Q : Option PV → Mem → Prop} {r : Nat} (hk : mK M r = 11) : WP d 117 168 [l0, l1, l2, l3, l4, l5, l6, l7, l8, l9] (vr r :: st) M Q = WP d 117 171 [l0, l1, l2, l3, l4, l5, l6, l7, l8, l9] (vr (mR M r 1) :: st) M Q := w_getr mC_117 d117_168 fE_11_16 rfl (by rw [hk]; rfl)
theorem d117_171 : decode cX11_drawn 171 = .ok (.getfield 148, 3) := by decide +kernel
theorem k117_171 {d : Nat} {l0 l1 l2 l3 l4 l5 l6 l7 l8 l9 : Option PV} {st : List PV} {M : Mem} {Q : Option PV → Mem → Prop} {r : Nat} (hk : mK M r = 4) : WP d 117 171 [l0, l1, l2, l3, l4, l5, l6, l7, l8, l9] (vr r :: st) M Q = WP d 117 174 [l0, l1, l2, l3, l4, l5, l6, l7, l8, l9] (vr (mR M r 1) :: st) M Q := w_getr mC_117 d117_171 fE_11_148 rfl (by rw [hk]; rfl)
theorem d117_174 : decode cX11_drawn 174 = .ok (.iload_n 3, 1) := by decide +kernel
theorem k117_174 {d : Nat} {x : Int32} {l0 l1 l2 l4 l5 l6 l7 l8 l9 : Option PV} {st : List PV} {M : Mem} {Q : Option PV → Mem → Prop} : WP d 117 174 [l0, l1, l2, some (vi x), l4, l5, l6, l7, l8, l9] (st) M Q = WP d 117 175 [l0, l1, l2, some (vi x), l4, l5, l6, l7, l8, l9] (vi x :: st) M Q := w1 mC_117 d117_174 rfl rfl
theorem d117_175 : decode cX11_drawn 175 = .ok (.iaload, 1) := by decide +kernel
theorem k117_175 {d : Nat} {l0 l1 l2 l3 l4 l5 l6 l7 l8 l9 : Option PV} {st : List PV} {M : Mem} {Q : Option PV → Mem → Prop} {r : Nat} {j : Int32} (hk : mK M r = 13) (hj : inb j (mN M r)) (_h1 : r ≠ 1) : WP d 117 175 [l0, l1, l2, l3, l4, l5, l6, l7, l8, l9] (vi j :: vr r :: st) M Q = WP d 117 176 [l0, l1, l2, l3, l4, l5, l6, l7, l8, l9] (vi (mI M r (ix j)) :: st) M Q := w_iald mC_117 d117_175 hk hj
theorem d117_176 : decode cX11_drawn 176 = .ok (.iadd, 1) := by decide +kernel
theorem k117_176 {d : Nat} {l0 l1 l2 l3 l4 l5 l6 l7 l8 l9 : Option PV} {st : List PV} {M : Mem} {Q : Option PV → Mem → Prop} {x y : Int32} : WP d 117 176 [l0, l1, l2, l3, l4, l5, l6, l7, l8, l9] (vi y :: vi x :: st) M Q = WP d 117 177 [l0, l1, l2, l3, l4, l5, l6, l7, l8, l9] (vi (x + y) :: st) M Q := w1 mC_117 d117_176 rfl rfl
theorem d117_177 : decode cX11_drawn 177 = .ok (.istore 7, 2) := by decide +kernel
theorem k117_177 {d : Nat} {l0 l1 l2 l3 l4 l5 l6 l7 l8 l9 : Option PV} {st : List PV} {M : Mem} {Q : Option PV → Mem → Prop} {x : Int32} : WP d 117 177 [l0, l1, l2, l3, l4, l5, l6, l7, l8, l9] (vi x :: st) M Q = WP d 117 179 [l0, l1, l2, l3, l4, l5, l6, some (vi x), l8, l9] (st) M Q := w1 mC_117 d117_177 rfl rfl
theorem d117_179 : decode cX11_drawn 179 = .ok (.iinc 8 1, 3) := by decide +kernel
theorem k117_179 {d : Nat} {x : Int32} {l0 l1 l2 l3 l4 l5 l6 l7 l9 : Option PV} {st : List PV} {M : Mem} {Q : Option PV → Mem → Prop} : WP d 117 179 [l0, l1, l2, l3, l4, l5, l6, l7, some (vi x), l9] (st) M Q = WP d 117 182 [l0, l1, l2, l3, l4, l5, l6, l7, some (vi (x + 1)), l9] (st) M Q := w_iinc mC_117 d117_179 rfl (by decide) rfl
theorem d117_182 : decode cX11_drawn 182 = .ok (.goto (-109), 3) := by decide +kernel
theorem k117_182 {d : Nat} {l0 l1 l2 l3 l4 l5 l6 l7 l8 l9 : Option PV} {st : List PV} {M : Mem} {Q : Option PV → Mem → Prop} : WP d 117 182 [l0, l1, l2, l3, l4, l5, l6, l7, l8, l9] (st) M Q = WP d 117 73 [l0, l1, l2, l3, l4, l5, l6, l7, l8, l9] (st) M Q := w_goto mC_117 d117_182 (by decide)
theorem d117_185 : decode cX11_drawn 185 = .ok (.iload 7, 2) := by decide +kernel
theorem k117_185 {d : Nat} {x : Int32} {l0 l1 l2 l3 l4 l5 l6 l8 l9 : Option PV} {st : List PV} {M : Mem} {Q : Option PV → Mem → Prop} : WP d 117 185 [l0, l1, l2, l3, l4, l5, l6, some (vi x), l8, l9] (st) M Q = WP d 117 187 [l0, l1, l2, l3, l4, l5, l6, some (vi x), l8, l9] (vi x :: st) M Q := w1 mC_117 d117_185 rfl rfl
theorem d117_187 : decode cX11_drawn 187 = .ok (.ireturn, 1) := by decide +kernel
theorem k117_187 {d : Nat} {l0 l1 l2 l3 l4 l5 l6 l7 l8 l9 : Option PV} {M : Mem} {Q : Option PV → Mem → Prop} {x : Int32} : WP d 117 187 [l0, l1, l2, l3, l4, l5, l6, l7, l8, l9] ([vi x]) M Q = Q (some (vi x)) M := w_iret mC_117 d117_187 rfl
theorem d118_0 : decode cX11_hour 0 = .ok (.aload_n 0, 1) := by decide +kernel
theorem k118_0 {d x : Nat} {st : List PV} {M : Mem} {Q : Option PV → Mem → Prop} : WP d 118 0 [some (vr x)] (st) M Q = WP d 118 1 [some (vr x)] (vr x :: st) M Q := w1 mC_118 d118_0 rfl rfl
theorem d118_1 : decode cX11_hour 1 = .ok (.getfield 10, 3) := by decide +kernel
theorem k118_1 {d : Nat} {l0 : Option PV} {st : List PV} {M : Mem} {Q : Option PV → Mem → Prop} {r : Nat} (hk : mK M r = 11) : WP d 118 1 [l0] (vr r :: st) M Q = WP d 118 4 [l0] (vr (mR M r 0) :: st) M Q := w_getr mC_118 d118_1 fE_11_10 rfl (by rw [hk]; rfl)
theorem d118_4 : decode cX11_hour 4 = .ok (.aload_n 0, 1) := by decide +kernel
theorem k118_4 {d x : Nat} {st : List PV} {M : Mem} {Q : Option PV → Mem → Prop} : WP d 118 4 [some (vr x)] (st) M Q = WP d 118 5 [some (vr x)] (vr x :: st) M Q := w1 mC_118 d118_4 rfl rfl
theorem d118_5 : decode cX11_hour 5 = .ok (.getfield 25, 3) := by decide +kernel
theorem k118_5 {d : Nat} {l0 : Option PV} {st : List PV} {M : Mem} {Q : Option PV → Mem → Prop} {r : Nat} (hk : mK M r = 11) : WP d 118 5 [l0] (vr r :: st) M Q = WP d 118 8 [l0] (vr (mR M r 4) :: st) M Q := w_getr mC_118 d118_5 fE_11_25 rfl (by rw [hk]; rfl)
theorem d118_8 : decode cX11_hour 8 = .ok (.invokevirtual 155, 3) := by decide +kernel
theorem k118_8 {d : Nat} {l0 : Option PV} {st : List PV} {M : Mem} {Q : Option PV → Mem → Prop} {a0 : Nat} {r : Nat} (hl : szL st ≤ 8) (hk : mK M r = 4) : WP (d + 1) 118 8 [l0] (vr a0 :: vr r :: st) M Q = WP d 44 0 [some (vr r), some (vr a0), none, none] [] M (fun v M' => WP (d + 1) 118 11 [l0] (psh v st) M' Q) := w_callV mC_118 d118_8 (ci := 4) rfl rfl rfl (Nat.le_of_ble_eq_true rfl) (by decide) rfl hl (Or.inl hk)
theorem d118_11 : decode cX11_hour 11 = .ok (.ireturn, 1) := by decide +kernel
theorem k118_11 {d : Nat} {l0 : Option PV} {M : Mem} {Q : Option PV → Mem → Prop} {x : Int32} : WP d 118 11 [l0] ([vi x]) M Q = Q (some (vi x)) M := w_iret mC_118 d118_11 rfl
theorem d119_0 : decode cX11_lends 0 = .ok (.aload_n 0, 1) := by decide +kernel
theorem k119_0 {d x : Nat} {l1 l2 l3 l4 : Option PV} {st : List PV} {M : Mem} {Q : Option PV → Mem → Prop} : WP d 119 0 [some (vr x), l1, l2, l3, l4] (st) M Q = WP d 119 1 [some (vr x), l1, l2, l3, l4] (vr x :: st) M Q := w1 mC_119 d119_0 rfl rfl
theorem d119_1 : decode cX11_lends 1 = .ok (.iload_n 1, 1) := by decide +kernel
theorem k119_1 {d : Nat} {x : Int32} {l0 l2 l3 l4 : Option PV} {st : List PV} {M : Mem} {Q : Option PV → Mem → Prop} : WP d 119 1 [l0, some (vi x), l2, l3, l4] (st) M Q = WP d 119 2 [l0, some (vi x), l2, l3, l4] (vi x :: st) M Q := w1 mC_119 d119_1 rfl rfl
theorem d119_2 : decode cX11_lends 2 = .ok (.invokevirtual 166, 3) := by decide +kernel
theorem k119_2 {d : Nat} {l0 l1 l2 l3 l4 : Option PV} {st : List PV} {M : Mem} {Q : Option PV → Mem → Prop} {a0 : Int32} {r : Nat} (hl : szL st ≤ 8) (hk : mK M r = 11) : WP (d + 1) 119 2 [l0, l1, l2, l3, l4] (vi a0 :: vr r :: st) M Q = WP d 143 0 [some (vr r), some (vi a0)] [] M (fun v M' => WP (d + 1) 119 5 [l0, l1, l2, l3, l4] (psh v st) M' Q) := w_callV mC_119 d119_2 (ci := 11) rfl rfl rfl (Nat.le_of_ble_eq_true rfl) (by decide) rfl hl (Or.inl hk)
theorem d119_5 : decode cX11_lends 5 = .ok (.ifCond .eq 13, 3) := by decide +kernel
theorem k119_5 {d : Nat} {l0 l1 l2 l3 l4 : Option PV} {st : List PV} {M : Mem} {Q : Option PV → Mem → Prop} {x : Int32} : WP d 119 5 [l0, l1, l2, l3, l4] (vi x :: st) M Q = (if x = 0 then WP d 119 18 [l0, l1, l2, l3, l4] (st) M Q else WP d 119 8 [l0, l1, l2, l3, l4] (st) M Q) := w_if_eq mC_119 d119_5 (by decide)
theorem d119_8 : decode cX11_lends 8 = .ok (.iload_n 2, 1) := by decide +kernel
theorem k119_8 {d : Nat} {x : Int32} {l0 l1 l3 l4 : Option PV} {st : List PV} {M : Mem} {Q : Option PV → Mem → Prop} : WP d 119 8 [l0, l1, some (vi x), l3, l4] (st) M Q = WP d 119 9 [l0, l1, some (vi x), l3, l4] (vi x :: st) M Q := w1 mC_119 d119_8 rfl rfl
theorem d119_9 : decode cX11_lends 9 = .ok (.iconst 1, 1) := by decide +kernel
theorem k119_9 {d : Nat} {l0 l1 l2 l3 l4 : Option PV} {st : List PV} {M : Mem} {Q : Option PV → Mem → Prop} : WP d 119 9 [l0, l1, l2, l3, l4] (st) M Q = WP d 119 10 [l0, l1, l2, l3, l4] (vi 1 :: st) M Q := w_iconst mC_119 d119_9 (by decide)
theorem d119_10 : decode cX11_lends 10 = .ok (.bipush 99, 2) := by decide +kernel
theorem k119_10 {d : Nat} {l0 l1 l2 l3 l4 : Option PV} {st : List PV} {M : Mem} {Q : Option PV → Mem → Prop} : WP d 119 10 [l0, l1, l2, l3, l4] (st) M Q = WP d 119 12 [l0, l1, l2, l3, l4] (vi 99 :: st) M Q := w_bipush mC_119 d119_10 (by decide)
theorem d119_12 : decode cX11_lends 12 = .ok (.invokestatic 79, 3) := by decide +kernel
theorem k119_12 {d : Nat} {l0 l1 l2 l3 l4 : Option PV} {st : List PV} {M : Mem} {Q : Option PV → Mem → Prop} {a0 a1 a2 : Int32} (hl : szL st ≤ 8) : WP (d + 1) 119 12 [l0, l1, l2, l3, l4] (vi a2 :: vi a1 :: vi a0 :: st) M Q = WP d 141 0 [some (vi a0), some (vi a1), some (vi a2)] [] M (fun v M' => WP (d + 1) 119 15 [l0, l1, l2, l3, l4] (psh v st) M' Q) := w_callS mC_119 d119_12 rfl rfl (Nat.le_of_ble_eq_true rfl) (by decide) rfl hl
theorem d119_15 : decode cX11_lends 15 = .ok (.ifCond .ne 5, 3) := by decide +kernel
theorem k119_15 {d : Nat} {l0 l1 l2 l3 l4 : Option PV} {st : List PV} {M : Mem} {Q : Option PV → Mem → Prop} {x : Int32} : WP d 119 15 [l0, l1, l2, l3, l4] (vi x :: st) M Q = (if x = 0 then WP d 119 18 [l0, l1, l2, l3, l4] (st) M Q else WP d 119 20 [l0, l1, l2, l3, l4] (st) M Q) := w_if_ne mC_119 d119_15 (by decide)
theorem d119_18 : decode cX11_lends 18 = .ok (.iconst (-1), 1) := by decide +kernel
theorem k119_18 {d : Nat} {l0 l1 l2 l3 l4 : Option PV} {st : List PV} {M : Mem} {Q : Option PV → Mem → Prop} : WP d 119 18 [l0, l1, l2, l3, l4] (st) M Q = WP d 119 19 [l0, l1, l2, l3, l4] (vi (-1) :: st) M Q := w_iconst mC_119 d119_18 (by decide)
theorem d119_19 : decode cX11_lends 19 = .ok (.ireturn, 1) := by decide +kernel
theorem k119_19 {d : Nat} {l0 l1 l2 l3 l4 : Option PV} {M : Mem} {Q : Option PV → Mem → Prop} {x : Int32} : WP d 119 19 [l0, l1, l2, l3, l4] ([vi x]) M Q = Q (some (vi x)) M := w_iret mC_119 d119_19 rfl
theorem d119_20 : decode cX11_lends 20 = .ok (.iload_n 1, 1) := by decide +kernel
theorem k119_20 {d : Nat} {x : Int32} {l0 l2 l3 l4 : Option PV} {st : List PV} {M : Mem} {Q : Option PV → Mem → Prop} : WP d 119 20 [l0, some (vi x), l2, l3, l4] (st) M Q = WP d 119 21 [l0, some (vi x), l2, l3, l4] (vi x :: st) M Q := w1 mC_119 d119_20 rfl rfl
theorem d119_21 : decode cX11_lends 21 = .ok (.bipush 10, 2) := by decide +kernel
theorem k119_21 {d : Nat} {l0 l1 l2 l3 l4 : Option PV} {st : List PV} {M : Mem} {Q : Option PV → Mem → Prop} : WP d 119 21 [l0, l1, l2, l3, l4] (st) M Q = WP d 119 23 [l0, l1, l2, l3, l4] (vi 10 :: st) M Q := w_bipush mC_119 d119_21 (by decide)
theorem d119_23 : decode cX11_lends 23 = .ok (.idiv, 1) := by decide +kernel
theorem k119_23 {d : Nat} {l0 l1 l2 l3 l4 : Option PV} {st : List PV} {M : Mem} {Q : Option PV → Mem → Prop} {x y : Int32} (h : y ≠ 0) : WP d 119 23 [l0, l1, l2, l3, l4] (vi y :: vi x :: st) M Q = WP d 119 24 [l0, l1, l2, l3, l4] (vi (x / y) :: st) M Q := w_div mC_119 d119_23 h
theorem d119_24 : decode cX11_lends 24 = .ok (.istore_n 3, 1) := by decide +kernel
theorem k119_24 {d : Nat} {l0 l1 l2 l3 l4 : Option PV} {st : List PV} {M : Mem} {Q : Option PV → Mem → Prop} {x : Int32} : WP d 119 24 [l0, l1, l2, l3, l4] (vi x :: st) M Q = WP d 119 25 [l0, l1, l2, some (vi x), l4] (st) M Q := w1 mC_119 d119_24 rfl rfl
theorem d119_25 : decode cX11_lends 25 = .ok (.iload_n 1, 1) := by decide +kernel
theorem k119_25 {d : Nat} {x : Int32} {l0 l2 l3 l4 : Option PV} {st : List PV} {M : Mem} {Q : Option PV → Mem → Prop} : WP d 119 25 [l0, some (vi x), l2, l3, l4] (st) M Q = WP d 119 26 [l0, some (vi x), l2, l3, l4] (vi x :: st) M Q := w1 mC_119 d119_25 rfl rfl
theorem d119_26 : decode cX11_lends 26 = .ok (.bipush 10, 2) := by decide +kernel
theorem k119_26 {d : Nat} {l0 l1 l2 l3 l4 : Option PV} {st : List PV} {M : Mem} {Q : Option PV → Mem → Prop} : WP d 119 26 [l0, l1, l2, l3, l4] (st) M Q = WP d 119 28 [l0, l1, l2, l3, l4] (vi 10 :: st) M Q := w_bipush mC_119 d119_26 (by decide)
theorem d119_28 : decode cX11_lends 28 = .ok (.irem, 1) := by decide +kernel
theorem k119_28 {d : Nat} {l0 l1 l2 l3 l4 : Option PV} {st : List PV} {M : Mem} {Q : Option PV → Mem → Prop} {x y : Int32} (h : y ≠ 0) : WP d 119 28 [l0, l1, l2, l3, l4] (vi y :: vi x :: st) M Q = WP d 119 29 [l0, l1, l2, l3, l4] (vi (x % y) :: st) M Q := w_rem mC_119 d119_28 h
theorem d119_29 : decode cX11_lends 29 = .ok (.istore 4, 2) := by decide +kernel
theorem k119_29 {d : Nat} {l0 l1 l2 l3 l4 : Option PV} {st : List PV} {M : Mem} {Q : Option PV → Mem → Prop} {x : Int32} : WP d 119 29 [l0, l1, l2, l3, l4] (vi x :: st) M Q = WP d 119 31 [l0, l1, l2, l3, some (vi x)] (st) M Q := w1 mC_119 d119_29 rfl rfl
theorem d119_31 : decode cX11_lends 31 = .ok (.aload_n 0, 1) := by decide +kernel
theorem k119_31 {d x : Nat} {l1 l2 l3 l4 : Option PV} {st : List PV} {M : Mem} {Q : Option PV → Mem → Prop} : WP d 119 31 [some (vr x), l1, l2, l3, l4] (st) M Q = WP d 119 32 [some (vr x), l1, l2, l3, l4] (vr x :: st) M Q := w1 mC_119 d119_31 rfl rfl
theorem d119_32 : decode cX11_lends 32 = .ok (.getfield 10, 3) := by decide +kernel
theorem k119_32 {d : Nat} {l0 l1 l2 l3 l4 : Option PV} {st : List PV} {M : Mem} {Q : Option PV → Mem → Prop} {r : Nat} (hk : mK M r = 11) : WP d 119 32 [l0, l1, l2, l3, l4] (vr r :: st) M Q = WP d 119 35 [l0, l1, l2, l3, l4] (vr (mR M r 0) :: st) M Q := w_getr mC_119 d119_32 fE_11_10 rfl (by rw [hk]; rfl)
theorem d119_35 : decode cX11_lends 35 = .ok (.getfield 145, 3) := by decide +kernel
theorem k119_35 {d : Nat} {l0 l1 l2 l3 l4 : Option PV} {st : List PV} {M : Mem} {Q : Option PV → Mem → Prop} {r : Nat} (hk : mK M r = 4) : WP d 119 35 [l0, l1, l2, l3, l4] (vr r :: st) M Q = WP d 119 38 [l0, l1, l2, l3, l4] (vr (mR M r 4) :: st) M Q := w_getr mC_119 d119_35 fE_11_145 rfl (by rw [hk]; rfl)
theorem d119_38 : decode cX11_lends 38 = .ok (.iload 4, 2) := by decide +kernel
theorem k119_38 {d : Nat} {x : Int32} {l0 l1 l2 l3 : Option PV} {st : List PV} {M : Mem} {Q : Option PV → Mem → Prop} : WP d 119 38 [l0, l1, l2, l3, some (vi x)] (st) M Q = WP d 119 40 [l0, l1, l2, l3, some (vi x)] (vi x :: st) M Q := w1 mC_119 d119_38 rfl rfl
theorem d119_40 : decode cX11_lends 40 = .ok (.iaload, 1) := by decide +kernel
theorem k119_40 {d : Nat} {l0 l1 l2 l3 l4 : Option PV} {st : List PV} {M : Mem} {Q : Option PV → Mem → Prop} {r : Nat} {j : Int32} (hk : mK M r = 13) (hj : inb j (mN M r)) (_h1 : r ≠ 1) : WP d 119 40 [l0, l1, l2, l3, l4] (vi j :: vr r :: st) M Q = WP d 119 41 [l0, l1, l2, l3, l4] (vi (mI M r (ix j)) :: st) M Q := w_iald mC_119 d119_40 hk hj
theorem d119_41 : decode cX11_lends 41 = .ok (.iconst (-1), 1) := by decide +kernel
theorem k119_41 {d : Nat} {l0 l1 l2 l3 l4 : Option PV} {st : List PV} {M : Mem} {Q : Option PV → Mem → Prop} : WP d 119 41 [l0, l1, l2, l3, l4] (st) M Q = WP d 119 42 [l0, l1, l2, l3, l4] (vi (-1) :: st) M Q := w_iconst mC_119 d119_41 (by decide)
theorem d119_42 : decode cX11_lends 42 = .ok (.if_icmp .ne 16, 3) := by decide +kernel
theorem k119_42 {d : Nat} {l0 l1 l2 l3 l4 : Option PV} {st : List PV} {M : Mem} {Q : Option PV → Mem → Prop} {x y : Int32} : WP d 119 42 [l0, l1, l2, l3, l4] (vi y :: vi x :: st) M Q = (if x = y then WP d 119 45 [l0, l1, l2, l3, l4] (st) M Q else WP d 119 58 [l0, l1, l2, l3, l4] (st) M Q) := w_ic_ne mC_119 d119_42 (by decide)
theorem d119_45 : decode cX11_lends 45 = .ok (.aload_n 0, 1) := by decide +kernel
theorem k119_45 {d x : Nat} {l1 l2 l3 l4 : Option PV} {st : List PV} {M : Mem} {Q : Option PV → Mem → Prop} : WP d 119 45 [some (vr x), l1, l2, l3, l4] (st) M Q = WP d 119 46 [some (vr x), l1, l2, l3, l4] (vr x :: st) M Q := w1 mC_119 d119_45 rfl rfl
theorem d119_46 : decode cX11_lends 46 = .ok (.getfield 10, 3) := by decide +kernel
theorem k119_46 {d : Nat} {l0 l1 l2 l3 l4 : Option PV} {st : List PV} {M : Mem} {Q : Option PV → Mem → Prop} {r : Nat} (hk : mK M r = 11) : WP d 119 46 [l0, l1, l2, l3, l4] (vr r :: st) M Q = WP d 119 49 [l0, l1, l2, l3, l4] (vr (mR M r 0) :: st) M Q := w_getr mC_119 d119_46 fE_11_10 rfl (by rw [hk]; rfl)
theorem d119_49 : decode cX11_lends 49 = .ok (.getfield 148, 3) := by decide +kernel
theorem k119_49 {d : Nat} {l0 l1 l2 l3 l4 : Option PV} {st : List PV} {M : Mem} {Q : Option PV → Mem → Prop} {r : Nat} (hk : mK M r = 4) : WP d 119 49 [l0, l1, l2, l3, l4] (vr r :: st) M Q = WP d 119 52 [l0, l1, l2, l3, l4] (vr (mR M r 1) :: st) M Q := w_getr mC_119 d119_49 fE_11_148 rfl (by rw [hk]; rfl)
theorem d119_52 : decode cX11_lends 52 = .ok (.iload_n 3, 1) := by decide +kernel
theorem k119_52 {d : Nat} {x : Int32} {l0 l1 l2 l4 : Option PV} {st : List PV} {M : Mem} {Q : Option PV → Mem → Prop} : WP d 119 52 [l0, l1, l2, some (vi x), l4] (st) M Q = WP d 119 53 [l0, l1, l2, some (vi x), l4] (vi x :: st) M Q := w1 mC_119 d119_52 rfl rfl
theorem d119_53 : decode cX11_lends 53 = .ok (.iaload, 1) := by decide +kernel
theorem k119_53 {d : Nat} {l0 l1 l2 l3 l4 : Option PV} {st : List PV} {M : Mem} {Q : Option PV → Mem → Prop} {r : Nat} {j : Int32} (hk : mK M r = 13) (hj : inb j (mN M r)) (_h1 : r ≠ 1) : WP d 119 53 [l0, l1, l2, l3, l4] (vi j :: vr r :: st) M Q = WP d 119 54 [l0, l1, l2, l3, l4] (vi (mI M r (ix j)) :: st) M Q := w_iald mC_119 d119_53 hk hj
theorem d119_54 : decode cX11_lends 54 = .ok (.iload_n 2, 1) := by decide +kernel
theorem k119_54 {d : Nat} {x : Int32} {l0 l1 l3 l4 : Option PV} {st : List PV} {M : Mem} {Q : Option PV → Mem → Prop} : WP d 119 54 [l0, l1, some (vi x), l3, l4] (st) M Q = WP d 119 55 [l0, l1, some (vi x), l3, l4] (vi x :: st) M Q := w1 mC_119 d119_54 rfl rfl
theorem d119_55 : decode cX11_lends 55 = .ok (.if_icmp .ge 6, 3) := by decide +kernel
theorem k119_55 {d : Nat} {l0 l1 l2 l3 l4 : Option PV} {st : List PV} {M : Mem} {Q : Option PV → Mem → Prop} {x y : Int32} : WP d 119 55 [l0, l1, l2, l3, l4] (vi y :: vi x :: st) M Q = (if y ≤ x then WP d 119 61 [l0, l1, l2, l3, l4] (st) M Q else WP d 119 58 [l0, l1, l2, l3, l4] (st) M Q) := w_ic_ge mC_119 d119_55 (by decide)
theorem d119_58 : decode cX11_lends 58 = .ok (.bipush (-5), 2) := by decide +kernel
theorem k119_58 {d : Nat} {l0 l1 l2 l3 l4 : Option PV} {st : List PV} {M : Mem} {Q : Option PV → Mem → Prop} : WP d 119 58 [l0, l1, l2, l3, l4] (st) M Q = WP d 119 60 [l0, l1, l2, l3, l4] (vi (-5) :: st) M Q := w_bipush mC_119 d119_58 (by decide)
theorem d119_60 : decode cX11_lends 60 = .ok (.ireturn, 1) := by decide +kernel
theorem k119_60 {d : Nat} {l0 l1 l2 l3 l4 : Option PV} {M : Mem} {Q : Option PV → Mem → Prop} {x : Int32} : WP d 119 60 [l0, l1, l2, l3, l4] ([vi x]) M Q = Q (some (vi x)) M := w_iret mC_119 d119_60 rfl
theorem d119_61 : decode cX11_lends 61 = .ok (.aload_n 0, 1) := by decide +kernel
theorem k119_61 {d x : Nat} {l1 l2 l3 l4 : Option PV} {st : List PV} {M : Mem} {Q : Option PV → Mem → Prop} : WP d 119 61 [some (vr x), l1, l2, l3, l4] (st) M Q = WP d 119 62 [some (vr x), l1, l2, l3, l4] (vr x :: st) M Q := w1 mC_119 d119_61 rfl rfl
theorem d119_62 : decode cX11_lends 62 = .ok (.getfield 10, 3) := by decide +kernel
theorem k119_62 {d : Nat} {l0 l1 l2 l3 l4 : Option PV} {st : List PV} {M : Mem} {Q : Option PV → Mem → Prop} {r : Nat} (hk : mK M r = 11) : WP d 119 62 [l0, l1, l2, l3, l4] (vr r :: st) M Q = WP d 119 65 [l0, l1, l2, l3, l4] (vr (mR M r 0) :: st) M Q := w_getr mC_119 d119_62 fE_11_10 rfl (by rw [hk]; rfl)
theorem d119_65 : decode cX11_lends 65 = .ok (.iload_n 3, 1) := by decide +kernel
theorem k119_65 {d : Nat} {x : Int32} {l0 l1 l2 l4 : Option PV} {st : List PV} {M : Mem} {Q : Option PV → Mem → Prop} : WP d 119 65 [l0, l1, l2, some (vi x), l4] (st) M Q = WP d 119 66 [l0, l1, l2, some (vi x), l4] (vi x :: st) M Q := w1 mC_119 d119_65 rfl rfl
theorem d119_66 : decode cX11_lends 66 = .ok (.iload 4, 2) := by decide +kernel
theorem k119_66 {d : Nat} {x : Int32} {l0 l1 l2 l3 : Option PV} {st : List PV} {M : Mem} {Q : Option PV → Mem → Prop} : WP d 119 66 [l0, l1, l2, l3, some (vi x)] (st) M Q = WP d 119 68 [l0, l1, l2, l3, some (vi x)] (vi x :: st) M Q := w1 mC_119 d119_66 rfl rfl
theorem d119_68 : decode cX11_lends 68 = .ok (.iload_n 2, 1) := by decide +kernel
theorem k119_68 {d : Nat} {x : Int32} {l0 l1 l3 l4 : Option PV} {st : List PV} {M : Mem} {Q : Option PV → Mem → Prop} : WP d 119 68 [l0, l1, some (vi x), l3, l4] (st) M Q = WP d 119 69 [l0, l1, some (vi x), l3, l4] (vi x :: st) M Q := w1 mC_119 d119_68 rfl rfl
theorem d119_69 : decode cX11_lends 69 = .ok (.invokevirtual 178, 3) := by decide +kernel
theorem k119_69 {d : Nat} {l0 l1 l2 l3 l4 : Option PV} {st : List PV} {M : Mem} {Q : Option PV → Mem → Prop} {a0 a1 a2 : Int32} {r : Nat} (hl : szL st ≤ 8) (hk : mK M r = 4) : WP (d + 1) 119 69 [l0, l1, l2, l3, l4] (vi a2 :: vi a1 :: vi a0 :: vr r :: st) M Q = WP d 37 0 [some (vr r), some (vi a0), some (vi a1), some (vi a2)] [] M (fun v M' => WP (d + 1) 119 72 [l0, l1, l2, l3, l4] (psh v st) M' Q) := w_callV mC_119 d119_69 (ci := 4) rfl rfl rfl (Nat.le_of_ble_eq_true rfl) (by decide) rfl hl (Or.inl hk)
theorem d119_72 : decode cX11_lends 72 = .ok (.aload_n 0, 1) := by decide +kernel
theorem k119_72 {d x : Nat} {l1 l2 l3 l4 : Option PV} {st : List PV} {M : Mem} {Q : Option PV → Mem → Prop} : WP d 119 72 [some (vr x), l1, l2, l3, l4] (st) M Q = WP d 119 73 [some (vr x), l1, l2, l3, l4] (vr x :: st) M Q := w1 mC_119 d119_72 rfl rfl
theorem d119_73 : decode cX11_lends 73 = .ok (.getfield 10, 3) := by decide +kernel
theorem k119_73 {d : Nat} {l0 l1 l2 l3 l4 : Option PV} {st : List PV} {M : Mem} {Q : Option PV → Mem → Prop} {r : Nat} (hk : mK M r = 11) : WP d 119 73 [l0, l1, l2, l3, l4] (vr r :: st) M Q = WP d 119 76 [l0, l1, l2, l3, l4] (vr (mR M r 0) :: st) M Q := w_getr mC_119 d119_73 fE_11_10 rfl (by rw [hk]; rfl)
theorem d119_76 : decode cX11_lends 76 = .ok (.getfield 148, 3) := by decide +kernel
theorem k119_76 {d : Nat} {l0 l1 l2 l3 l4 : Option PV} {st : List PV} {M : Mem} {Q : Option PV → Mem → Prop} {r : Nat} (hk : mK M r = 4) : WP d 119 76 [l0, l1, l2, l3, l4] (vr r :: st) M Q = WP d 119 79 [l0, l1, l2, l3, l4] (vr (mR M r 1) :: st) M Q := w_getr mC_119 d119_76 fE_11_148 rfl (by rw [hk]; rfl)
theorem d119_79 : decode cX11_lends 79 = .ok (.iload_n 3, 1) := by decide +kernel
theorem k119_79 {d : Nat} {x : Int32} {l0 l1 l2 l4 : Option PV} {st : List PV} {M : Mem} {Q : Option PV → Mem → Prop} : WP d 119 79 [l0, l1, l2, some (vi x), l4] (st) M Q = WP d 119 80 [l0, l1, l2, some (vi x), l4] (vi x :: st) M Q := w1 mC_119 d119_79 rfl rfl
theorem d119_80 : decode cX11_lends 80 = .ok (.dup2, 1) := by decide +kernel
theorem k119_80 {d : Nat} {l0 l1 l2 l3 l4 : Option PV} {st : List PV} {M : Mem} {Q : Option PV → Mem → Prop} {a : Int32} {b : Nat} : WP d 119 80 [l0, l1, l2, l3, l4] (vi a :: vr b :: st) M Q = WP d 119 81 [l0, l1, l2, l3, l4] (vi a :: vr b :: vi a :: vr b :: st) M Q := w1 mC_119 d119_80 rfl rfl
theorem d119_81 : decode cX11_lends 81 = .ok (.iaload, 1) := by decide +kernel
theorem k119_81 {d : Nat} {l0 l1 l2 l3 l4 : Option PV} {st : List PV} {M : Mem} {Q : Option PV → Mem → Prop} {r : Nat} {j : Int32} (hk : mK M r = 13) (hj : inb j (mN M r)) (_h1 : r ≠ 1) : WP d 119 81 [l0, l1, l2, l3, l4] (vi j :: vr r :: st) M Q = WP d 119 82 [l0, l1, l2, l3, l4] (vi (mI M r (ix j)) :: st) M Q := w_iald mC_119 d119_81 hk hj
theorem d119_82 : decode cX11_lends 82 = .ok (.iload_n 2, 1) := by decide +kernel
theorem k119_82 {d : Nat} {x : Int32} {l0 l1 l3 l4 : Option PV} {st : List PV} {M : Mem} {Q : Option PV → Mem → Prop} : WP d 119 82 [l0, l1, some (vi x), l3, l4] (st) M Q = WP d 119 83 [l0, l1, some (vi x), l3, l4] (vi x :: st) M Q := w1 mC_119 d119_82 rfl rfl
theorem d119_83 : decode cX11_lends 83 = .ok (.isub, 1) := by decide +kernel
theorem k119_83 {d : Nat} {l0 l1 l2 l3 l4 : Option PV} {st : List PV} {M : Mem} {Q : Option PV → Mem → Prop} {x y : Int32} : WP d 119 83 [l0, l1, l2, l3, l4] (vi y :: vi x :: st) M Q = WP d 119 84 [l0, l1, l2, l3, l4] (vi (x - y) :: st) M Q := w1 mC_119 d119_83 rfl rfl
theorem d119_84 : decode cX11_lends 84 = .ok (.iastore, 1) := by decide +kernel
theorem k119_84 {d : Nat} {l0 l1 l2 l3 l4 : Option PV} {st : List PV} {M : Mem} {Q : Option PV → Mem → Prop} {r : Nat} {j x : Int32} (hk : mK M r = 13) (hj : inb j (mN M r)) (h1 : r ≠ 1) : WP d 119 84 [l0, l1, l2, l3, l4] (vi x :: vi j :: vr r :: st) M Q = WP d 119 85 [l0, l1, l2, l3, l4] (st) (sI M r (ix j) x) Q := w_iast mC_119 d119_84 hk hj h1
theorem d119_85 : decode cX11_lends 85 = .ok (.aload_n 0, 1) := by decide +kernel
theorem k119_85 {d x : Nat} {l1 l2 l3 l4 : Option PV} {st : List PV} {M : Mem} {Q : Option PV → Mem → Prop} : WP d 119 85 [some (vr x), l1, l2, l3, l4] (st) M Q = WP d 119 86 [some (vr x), l1, l2, l3, l4] (vr x :: st) M Q := w1 mC_119 d119_85 rfl rfl
theorem d119_86 : decode cX11_lends 86 = .ok (.getfield 10, 3) := by decide +kernel
theorem k119_86 {d : Nat} {l0 l1 l2 l3 l4 : Option PV} {st : List PV} {M : Mem} {Q : Option PV → Mem → Prop} {r : Nat} (hk : mK M r = 11) : WP d 119 86 [l0, l1, l2, l3, l4] (vr r :: st) M Q = WP d 119 89 [l0, l1, l2, l3, l4] (vr (mR M r 0) :: st) M Q := w_getr mC_119 d119_86 fE_11_10 rfl (by rw [hk]; rfl)
theorem d119_89 : decode cX11_lends 89 = .ok (.getfield 292, 3) := by decide +kernel
theorem k119_89 {d : Nat} {l0 l1 l2 l3 l4 : Option PV} {st : List PV} {M : Mem} {Q : Option PV → Mem → Prop} {r : Nat} (hk : mK M r = 4) : WP d 119 89 [l0, l1, l2, l3, l4] (vr r :: st) M Q = WP d 119 92 [l0, l1, l2, l3, l4] (vr (mR M r 6) :: st) M Q := w_getr mC_119 d119_89 fE_11_292 rfl (by rw [hk]; rfl)
theorem d119_92 : decode cX11_lends 92 = .ok (.iconst 1, 1) := by decide +kernel
theorem k119_92 {d : Nat} {l0 l1 l2 l3 l4 : Option PV} {st : List PV} {M : Mem} {Q : Option PV → Mem → Prop} : WP d 119 92 [l0, l1, l2, l3, l4] (st) M Q = WP d 119 93 [l0, l1, l2, l3, l4] (vi 1 :: st) M Q := w_iconst mC_119 d119_92 (by decide)
theorem d119_93 : decode cX11_lends 93 = .ok (.dup2, 1) := by decide +kernel
theorem k119_93 {d : Nat} {l0 l1 l2 l3 l4 : Option PV} {st : List PV} {M : Mem} {Q : Option PV → Mem → Prop} {a : Int32} {b : Nat} : WP d 119 93 [l0, l1, l2, l3, l4] (vi a :: vr b :: st) M Q = WP d 119 94 [l0, l1, l2, l3, l4] (vi a :: vr b :: vi a :: vr b :: st) M Q := w1 mC_119 d119_93 rfl rfl
theorem d119_94 : decode cX11_lends 94 = .ok (.iaload, 1) := by decide +kernel
theorem k119_94 {d : Nat} {l0 l1 l2 l3 l4 : Option PV} {st : List PV} {M : Mem} {Q : Option PV → Mem → Prop} {r : Nat} {j : Int32} (hk : mK M r = 13) (hj : inb j (mN M r)) (_h1 : r ≠ 1) : WP d 119 94 [l0, l1, l2, l3, l4] (vi j :: vr r :: st) M Q = WP d 119 95 [l0, l1, l2, l3, l4] (vi (mI M r (ix j)) :: st) M Q := w_iald mC_119 d119_94 hk hj
theorem d119_95 : decode cX11_lends 95 = .ok (.iconst 1, 1) := by decide +kernel
theorem k119_95 {d : Nat} {l0 l1 l2 l3 l4 : Option PV} {st : List PV} {M : Mem} {Q : Option PV → Mem → Prop} : WP d 119 95 [l0, l1, l2, l3, l4] (st) M Q = WP d 119 96 [l0, l1, l2, l3, l4] (vi 1 :: st) M Q := w_iconst mC_119 d119_95 (by decide)
theorem d119_96 : decode cX11_lends 96 = .ok (.iadd, 1) := by decide +kernel
theorem k119_96 {d : Nat} {l0 l1 l2 l3 l4 : Option PV} {st : List PV} {M : Mem} {Q : Option PV → Mem → Prop} {x y : Int32} : WP d 119 96 [l0, l1, l2, l3, l4] (vi y :: vi x :: st) M Q = WP d 119 97 [l0, l1, l2, l3, l4] (vi (x + y) :: st) M Q := w1 mC_119 d119_96 rfl rfl
theorem d119_97 : decode cX11_lends 97 = .ok (.iastore, 1) := by decide +kernel
theorem k119_97 {d : Nat} {l0 l1 l2 l3 l4 : Option PV} {st : List PV} {M : Mem} {Q : Option PV → Mem → Prop} {r : Nat} {j x : Int32} (hk : mK M r = 13) (hj : inb j (mN M r)) (h1 : r ≠ 1) : WP d 119 97 [l0, l1, l2, l3, l4] (vi x :: vi j :: vr r :: st) M Q = WP d 119 98 [l0, l1, l2, l3, l4] (st) (sI M r (ix j) x) Q := w_iast mC_119 d119_97 hk hj h1
theorem d119_98 : decode cX11_lends 98 = .ok (.aload_n 0, 1) := by decide +kernel
theorem k119_98 {d x : Nat} {l1 l2 l3 l4 : Option PV} {st : List PV} {M : Mem} {Q : Option PV → Mem → Prop} : WP d 119 98 [some (vr x), l1, l2, l3, l4] (st) M Q = WP d 119 99 [some (vr x), l1, l2, l3, l4] (vr x :: st) M Q := w1 mC_119 d119_98 rfl rfl
theorem d119_99 : decode cX11_lends 99 = .ok (.getfield 10, 3) := by decide +kernel
theorem k119_99 {d : Nat} {l0 l1 l2 l3 l4 : Option PV} {st : List PV} {M : Mem} {Q : Option PV → Mem → Prop} {r : Nat} (hk : mK M r = 11) : WP d 119 99 [l0, l1, l2, l3, l4] (vr r :: st) M Q = WP d 119 102 [l0, l1, l2, l3, l4] (vr (mR M r 0) :: st) M Q := w_getr mC_119 d119_99 fE_11_10 rfl (by rw [hk]; rfl)
theorem d119_102 : decode cX11_lends 102 = .ok (.getfield 148, 3) := by decide +kernel
theorem k119_102 {d : Nat} {l0 l1 l2 l3 l4 : Option PV} {st : List PV} {M : Mem} {Q : Option PV → Mem → Prop} {r : Nat} (hk : mK M r = 4) : WP d 119 102 [l0, l1, l2, l3, l4] (vr r :: st) M Q = WP d 119 105 [l0, l1, l2, l3, l4] (vr (mR M r 1) :: st) M Q := w_getr mC_119 d119_102 fE_11_148 rfl (by rw [hk]; rfl)
theorem d119_105 : decode cX11_lends 105 = .ok (.iload_n 3, 1) := by decide +kernel
theorem k119_105 {d : Nat} {x : Int32} {l0 l1 l2 l4 : Option PV} {st : List PV} {M : Mem} {Q : Option PV → Mem → Prop} : WP d 119 105 [l0, l1, l2, some (vi x), l4] (st) M Q = WP d 119 106 [l0, l1, l2, some (vi x), l4] (vi x :: st) M Q := w1 mC_119 d119_105 rfl rfl
theorem d119_106 : decode cX11_lends 106 = .ok (.iaload, 1) := by decide +kernel
theorem k119_106 {d : Nat} {l0 l1 l2 l3 l4 : Option PV} {st : List PV} {M : Mem} {Q : Option PV → Mem → Prop} {r : Nat} {j : Int32} (hk : mK M r = 13) (hj : inb j (mN M r)) (_h1 : r ≠ 1) : WP d 119 106 [l0, l1, l2, l3, l4] (vi j :: vr r :: st) M Q = WP d 119 107 [l0, l1, l2, l3, l4] (vi (mI M r (ix j)) :: st) M Q := w_iald mC_119 d119_106 hk hj
theorem d119_107 : decode cX11_lends 107 = .ok (.ireturn, 1) := by decide +kernel
theorem k119_107 {d : Nat} {l0 l1 l2 l3 l4 : Option PV} {M : Mem} {Q : Option PV → Mem → Prop} {x : Int32} : WP d 119 107 [l0, l1, l2, l3, l4] ([vi x]) M Q = Q (some (vi x)) M := w_iret mC_119 d119_107 rfl
theorem d120_0 : decode cX11_over 0 = .ok (.aload_n 0, 1) := by decide +kernel
theorem k120_0 {d x : Nat} {l1 l2 : Option PV} {st : List PV} {M : Mem} {Q : Option PV → Mem → Prop} : WP d 120 0 [some (vr x), l1, l2] (st) M Q = WP d 120 1 [some (vr x), l1, l2] (vr x :: st) M Q := w1 mC_120 d120_0 rfl rfl
theorem d120_1 : decode cX11_over 1 = .ok (.getfield 10, 3) := by decide +kernel
theorem k120_1 {d : Nat} {l0 l1 l2 : Option PV} {st : List PV} {M : Mem} {Q : Option PV → Mem → Prop} {r : Nat} (hk : mK M r = 11) : WP d 120 1 [l0, l1, l2] (vr r :: st) M Q = WP d 120 4 [l0, l1, l2] (vr (mR M r 0) :: st) M Q := w_getr mC_120 d120_1 fE_11_10 rfl (by rw [hk]; rfl)
theorem d120_4 : decode cX11_over 4 = .ok (.iload_n 1, 1) := by decide +kernel
theorem k120_4 {d : Nat} {x : Int32} {l0 l2 : Option PV} {st : List PV} {M : Mem} {Q : Option PV → Mem → Prop} : WP d 120 4 [l0, some (vi x), l2] (st) M Q = WP d 120 5 [l0, some (vi x), l2] (vi x :: st) M Q := w1 mC_120 d120_4 rfl rfl
theorem d120_5 : decode cX11_over 5 = .ok (.invokevirtual 128, 3) := by decide +kernel
theorem k120_5 {d : Nat} {l0 l1 l2 : Option PV} {st : List PV} {M : Mem} {Q : Option PV → Mem → Prop} {a0 : Int32} {r : Nat} (hl : szL st ≤ 8) (hk : mK M r = 4) : WP (d + 1) 120 5 [l0, l1, l2] (vi a0 :: vr r :: st) M Q = WP d 25 0 [some (vr r), some (vi a0)] [] M (fun v M' => WP (d + 1) 120 8 [l0, l1, l2] (psh v st) M' Q) := w_callV mC_120 d120_5 (ci := 4) rfl rfl rfl (Nat.le_of_ble_eq_true rfl) (by decide) rfl hl (Or.inl hk)
theorem d120_8 : decode cX11_over 8 = .ok (.ifCond .ne 5, 3) := by decide +kernel
theorem k120_8 {d : Nat} {l0 l1 l2 : Option PV} {st : List PV} {M : Mem} {Q : Option PV → Mem → Prop} {x : Int32} : WP d 120 8 [l0, l1, l2] (vi x :: st) M Q = (if x = 0 then WP d 120 11 [l0, l1, l2] (st) M Q else WP d 120 13 [l0, l1, l2] (st) M Q) := w_if_ne mC_120 d120_8 (by decide)
theorem d120_11 : decode cX11_over 11 = .ok (.iconst (-1), 1) := by decide +kernel
theorem k120_11 {d : Nat} {l0 l1 l2 : Option PV} {st : List PV} {M : Mem} {Q : Option PV → Mem → Prop} : WP d 120 11 [l0, l1, l2] (st) M Q = WP d 120 12 [l0, l1, l2] (vi (-1) :: st) M Q := w_iconst mC_120 d120_11 (by decide)
theorem d120_12 : decode cX11_over 12 = .ok (.ireturn, 1) := by decide +kernel
theorem k120_12 {d : Nat} {l0 l1 l2 : Option PV} {M : Mem} {Q : Option PV → Mem → Prop} {x : Int32} : WP d 120 12 [l0, l1, l2] ([vi x]) M Q = Q (some (vi x)) M := w_iret mC_120 d120_12 rfl
theorem d120_13 : decode cX11_over 13 = .ok (.aload_n 0, 1) := by decide +kernel
theorem k120_13 {d x : Nat} {l1 l2 : Option PV} {st : List PV} {M : Mem} {Q : Option PV → Mem → Prop} : WP d 120 13 [some (vr x), l1, l2] (st) M Q = WP d 120 14 [some (vr x), l1, l2] (vr x :: st) M Q := w1 mC_120 d120_13 rfl rfl
theorem d120_14 : decode cX11_over 14 = .ok (.getfield 10, 3) := by decide +kernel
theorem k120_14 {d : Nat} {l0 l1 l2 : Option PV} {st : List PV} {M : Mem} {Q : Option PV → Mem → Prop} {r : Nat} (hk : mK M r = 11) : WP d 120 14 [l0, l1, l2] (vr r :: st) M Q = WP d 120 17 [l0, l1, l2] (vr (mR M r 0) :: st) M Q := w_getr mC_120 d120_14 fE_11_10 rfl (by rw [hk]; rfl)
theorem d120_17 : decode cX11_over 17 = .ok (.getfield 145, 3) := by decide +kernel
theorem k120_17 {d : Nat} {l0 l1 l2 : Option PV} {st : List PV} {M : Mem} {Q : Option PV → Mem → Prop} {r : Nat} (hk : mK M r = 4) : WP d 120 17 [l0, l1, l2] (vr r :: st) M Q = WP d 120 20 [l0, l1, l2] (vr (mR M r 4) :: st) M Q := w_getr mC_120 d120_17 fE_11_145 rfl (by rw [hk]; rfl)
theorem d120_20 : decode cX11_over 20 = .ok (.iload_n 1, 1) := by decide +kernel
theorem k120_20 {d : Nat} {x : Int32} {l0 l2 : Option PV} {st : List PV} {M : Mem} {Q : Option PV → Mem → Prop} : WP d 120 20 [l0, some (vi x), l2] (st) M Q = WP d 120 21 [l0, some (vi x), l2] (vi x :: st) M Q := w1 mC_120 d120_20 rfl rfl
theorem d120_21 : decode cX11_over 21 = .ok (.iaload, 1) := by decide +kernel
theorem k120_21 {d : Nat} {l0 l1 l2 : Option PV} {st : List PV} {M : Mem} {Q : Option PV → Mem → Prop} {r : Nat} {j : Int32} (hk : mK M r = 13) (hj : inb j (mN M r)) (_h1 : r ≠ 1) : WP d 120 21 [l0, l1, l2] (vi j :: vr r :: st) M Q = WP d 120 22 [l0, l1, l2] (vi (mI M r (ix j)) :: st) M Q := w_iald mC_120 d120_21 hk hj
theorem d120_22 : decode cX11_over 22 = .ok (.iconst (-1), 1) := by decide +kernel
theorem k120_22 {d : Nat} {l0 l1 l2 : Option PV} {st : List PV} {M : Mem} {Q : Option PV → Mem → Prop} : WP d 120 22 [l0, l1, l2] (st) M Q = WP d 120 23 [l0, l1, l2] (vi (-1) :: st) M Q := w_iconst mC_120 d120_22 (by decide)
theorem d120_23 : decode cX11_over 23 = .ok (.if_icmp .ne 6, 3) := by decide +kernel
theorem k120_23 {d : Nat} {l0 l1 l2 : Option PV} {st : List PV} {M : Mem} {Q : Option PV → Mem → Prop} {x y : Int32} : WP d 120 23 [l0, l1, l2] (vi y :: vi x :: st) M Q = (if x = y then WP d 120 26 [l0, l1, l2] (st) M Q else WP d 120 29 [l0, l1, l2] (st) M Q) := w_ic_ne mC_120 d120_23 (by decide)
theorem d120_26 : decode cX11_over 26 = .ok (.bipush (-5), 2) := by decide +kernel
theorem k120_26 {d : Nat} {l0 l1 l2 : Option PV} {st : List PV} {M : Mem} {Q : Option PV → Mem → Prop} : WP d 120 26 [l0, l1, l2] (st) M Q = WP d 120 28 [l0, l1, l2] (vi (-5) :: st) M Q := w_bipush mC_120 d120_26 (by decide)
theorem d120_28 : decode cX11_over 28 = .ok (.ireturn, 1) := by decide +kernel
theorem k120_28 {d : Nat} {l0 l1 l2 : Option PV} {M : Mem} {Q : Option PV → Mem → Prop} {x : Int32} : WP d 120 28 [l0, l1, l2] ([vi x]) M Q = Q (some (vi x)) M := w_iret mC_120 d120_28 rfl
theorem d120_29 : decode cX11_over 29 = .ok (.aload_n 0, 1) := by decide +kernel
theorem k120_29 {d x : Nat} {l1 l2 : Option PV} {st : List PV} {M : Mem} {Q : Option PV → Mem → Prop} : WP d 120 29 [some (vr x), l1, l2] (st) M Q = WP d 120 30 [some (vr x), l1, l2] (vr x :: st) M Q := w1 mC_120 d120_29 rfl rfl
theorem d120_30 : decode cX11_over 30 = .ok (.getfield 10, 3) := by decide +kernel
theorem k120_30 {d : Nat} {l0 l1 l2 : Option PV} {st : List PV} {M : Mem} {Q : Option PV → Mem → Prop} {r : Nat} (hk : mK M r = 11) : WP d 120 30 [l0, l1, l2] (vr r :: st) M Q = WP d 120 33 [l0, l1, l2] (vr (mR M r 0) :: st) M Q := w_getr mC_120 d120_30 fE_11_10 rfl (by rw [hk]; rfl)
theorem d120_33 : decode cX11_over 33 = .ok (.getfield 139, 3) := by decide +kernel
theorem k120_33 {d : Nat} {l0 l1 l2 : Option PV} {st : List PV} {M : Mem} {Q : Option PV → Mem → Prop} {r : Nat} (hk : mK M r = 4) : WP d 120 33 [l0, l1, l2] (vr r :: st) M Q = WP d 120 36 [l0, l1, l2] (vr (mR M r 5) :: st) M Q := w_getr mC_120 d120_33 fE_11_139 rfl (by rw [hk]; rfl)
theorem d120_36 : decode cX11_over 36 = .ok (.iload_n 1, 1) := by decide +kernel
theorem k120_36 {d : Nat} {x : Int32} {l0 l2 : Option PV} {st : List PV} {M : Mem} {Q : Option PV → Mem → Prop} : WP d 120 36 [l0, some (vi x), l2] (st) M Q = WP d 120 37 [l0, some (vi x), l2] (vi x :: st) M Q := w1 mC_120 d120_36 rfl rfl
theorem d120_37 : decode cX11_over 37 = .ok (.iaload, 1) := by decide +kernel
theorem k120_37 {d : Nat} {l0 l1 l2 : Option PV} {st : List PV} {M : Mem} {Q : Option PV → Mem → Prop} {r : Nat} {j : Int32} (hk : mK M r = 13) (hj : inb j (mN M r)) (_h1 : r ≠ 1) : WP d 120 37 [l0, l1, l2] (vi j :: vr r :: st) M Q = WP d 120 38 [l0, l1, l2] (vi (mI M r (ix j)) :: st) M Q := w_iald mC_120 d120_37 hk hj
theorem d120_38 : decode cX11_over 38 = .ok (.istore_n 2, 1) := by decide +kernel
theorem k120_38 {d : Nat} {l0 l1 l2 : Option PV} {st : List PV} {M : Mem} {Q : Option PV → Mem → Prop} {x : Int32} : WP d 120 38 [l0, l1, l2] (vi x :: st) M Q = WP d 120 39 [l0, l1, some (vi x)] (st) M Q := w1 mC_120 d120_38 rfl rfl
theorem d120_39 : decode cX11_over 39 = .ok (.aload_n 0, 1) := by decide +kernel
theorem k120_39 {d x : Nat} {l1 l2 : Option PV} {st : List PV} {M : Mem} {Q : Option PV → Mem → Prop} : WP d 120 39 [some (vr x), l1, l2] (st) M Q = WP d 120 40 [some (vr x), l1, l2] (vr x :: st) M Q := w1 mC_120 d120_39 rfl rfl
theorem d120_40 : decode cX11_over 40 = .ok (.getfield 10, 3) := by decide +kernel
theorem k120_40 {d : Nat} {l0 l1 l2 : Option PV} {st : List PV} {M : Mem} {Q : Option PV → Mem → Prop} {r : Nat} (hk : mK M r = 11) : WP d 120 40 [l0, l1, l2] (vr r :: st) M Q = WP d 120 43 [l0, l1, l2] (vr (mR M r 0) :: st) M Q := w_getr mC_120 d120_40 fE_11_10 rfl (by rw [hk]; rfl)
theorem d120_43 : decode cX11_over 43 = .ok (.iload_n 1, 1) := by decide +kernel
theorem k120_43 {d : Nat} {x : Int32} {l0 l2 : Option PV} {st : List PV} {M : Mem} {Q : Option PV → Mem → Prop} : WP d 120 43 [l0, some (vi x), l2] (st) M Q = WP d 120 44 [l0, some (vi x), l2] (vi x :: st) M Q := w1 mC_120 d120_43 rfl rfl
theorem d120_44 : decode cX11_over 44 = .ok (.invokevirtual 295, 3) := by decide +kernel
theorem k120_44 {d : Nat} {l0 l1 l2 : Option PV} {st : List PV} {M : Mem} {Q : Option PV → Mem → Prop} {a0 : Int32} {r : Nat} (hl : szL st ≤ 8) (hk : mK M r = 4) : WP (d + 1) 120 44 [l0, l1, l2] (vi a0 :: vr r :: st) M Q = WP d 38 0 [some (vr r), some (vi a0)] [] M (fun v M' => WP (d + 1) 120 47 [l0, l1, l2] (psh v st) M' Q) := w_callV mC_120 d120_44 (ci := 4) rfl rfl rfl (Nat.le_of_ble_eq_true rfl) (by decide) rfl hl (Or.inl hk)
theorem d120_47 : decode cX11_over 47 = .ok (.aload_n 0, 1) := by decide +kernel
theorem k120_47 {d x : Nat} {l1 l2 : Option PV} {st : List PV} {M : Mem} {Q : Option PV → Mem → Prop} : WP d 120 47 [some (vr x), l1, l2] (st) M Q = WP d 120 48 [some (vr x), l1, l2] (vr x :: st) M Q := w1 mC_120 d120_47 rfl rfl
theorem d120_48 : decode cX11_over 48 = .ok (.getfield 10, 3) := by decide +kernel
theorem k120_48 {d : Nat} {l0 l1 l2 : Option PV} {st : List PV} {M : Mem} {Q : Option PV → Mem → Prop} {r : Nat} (hk : mK M r = 11) : WP d 120 48 [l0, l1, l2] (vr r :: st) M Q = WP d 120 51 [l0, l1, l2] (vr (mR M r 0) :: st) M Q := w_getr mC_120 d120_48 fE_11_10 rfl (by rw [hk]; rfl)
theorem d120_51 : decode cX11_over 51 = .ok (.getfield 292, 3) := by decide +kernel
theorem k120_51 {d : Nat} {l0 l1 l2 : Option PV} {st : List PV} {M : Mem} {Q : Option PV → Mem → Prop} {r : Nat} (hk : mK M r = 4) : WP d 120 51 [l0, l1, l2] (vr r :: st) M Q = WP d 120 54 [l0, l1, l2] (vr (mR M r 6) :: st) M Q := w_getr mC_120 d120_51 fE_11_292 rfl (by rw [hk]; rfl)
theorem d120_54 : decode cX11_over 54 = .ok (.iconst 4, 1) := by decide +kernel
theorem k120_54 {d : Nat} {l0 l1 l2 : Option PV} {st : List PV} {M : Mem} {Q : Option PV → Mem → Prop} : WP d 120 54 [l0, l1, l2] (st) M Q = WP d 120 55 [l0, l1, l2] (vi 4 :: st) M Q := w_iconst mC_120 d120_54 (by decide)
theorem d120_55 : decode cX11_over 55 = .ok (.dup2, 1) := by decide +kernel
theorem k120_55 {d : Nat} {l0 l1 l2 : Option PV} {st : List PV} {M : Mem} {Q : Option PV → Mem → Prop} {a : Int32} {b : Nat} : WP d 120 55 [l0, l1, l2] (vi a :: vr b :: st) M Q = WP d 120 56 [l0, l1, l2] (vi a :: vr b :: vi a :: vr b :: st) M Q := w1 mC_120 d120_55 rfl rfl
theorem d120_56 : decode cX11_over 56 = .ok (.iaload, 1) := by decide +kernel
theorem k120_56 {d : Nat} {l0 l1 l2 : Option PV} {st : List PV} {M : Mem} {Q : Option PV → Mem → Prop} {r : Nat} {j : Int32} (hk : mK M r = 13) (hj : inb j (mN M r)) (_h1 : r ≠ 1) : WP d 120 56 [l0, l1, l2] (vi j :: vr r :: st) M Q = WP d 120 57 [l0, l1, l2] (vi (mI M r (ix j)) :: st) M Q := w_iald mC_120 d120_56 hk hj
theorem d120_57 : decode cX11_over 57 = .ok (.iconst 1, 1) := by decide +kernel
theorem k120_57 {d : Nat} {l0 l1 l2 : Option PV} {st : List PV} {M : Mem} {Q : Option PV → Mem → Prop} : WP d 120 57 [l0, l1, l2] (st) M Q = WP d 120 58 [l0, l1, l2] (vi 1 :: st) M Q := w_iconst mC_120 d120_57 (by decide)
theorem d120_58 : decode cX11_over 58 = .ok (.iadd, 1) := by decide +kernel
theorem k120_58 {d : Nat} {l0 l1 l2 : Option PV} {st : List PV} {M : Mem} {Q : Option PV → Mem → Prop} {x y : Int32} : WP d 120 58 [l0, l1, l2] (vi y :: vi x :: st) M Q = WP d 120 59 [l0, l1, l2] (vi (x + y) :: st) M Q := w1 mC_120 d120_58 rfl rfl
theorem d120_59 : decode cX11_over 59 = .ok (.iastore, 1) := by decide +kernel
theorem k120_59 {d : Nat} {l0 l1 l2 : Option PV} {st : List PV} {M : Mem} {Q : Option PV → Mem → Prop} {r : Nat} {j x : Int32} (hk : mK M r = 13) (hj : inb j (mN M r)) (h1 : r ≠ 1) : WP d 120 59 [l0, l1, l2] (vi x :: vi j :: vr r :: st) M Q = WP d 120 60 [l0, l1, l2] (st) (sI M r (ix j) x) Q := w_iast mC_120 d120_59 hk hj h1
theorem d120_60 : decode cX11_over 60 = .ok (.iload_n 2, 1) := by decide +kernel
theorem k120_60 {d : Nat} {x : Int32} {l0 l1 : Option PV} {st : List PV} {M : Mem} {Q : Option PV → Mem → Prop} : WP d 120 60 [l0, l1, some (vi x)] (st) M Q = WP d 120 61 [l0, l1, some (vi x)] (vi x :: st) M Q := w1 mC_120 d120_60 rfl rfl
theorem d120_61 : decode cX11_over 61 = .ok (.ireturn, 1) := by decide +kernel
theorem k120_61 {d : Nat} {l0 l1 l2 : Option PV} {M : Mem} {Q : Option PV → Mem → Prop} {x : Int32} : WP d 120 61 [l0, l1, l2] ([vi x]) M Q = Q (some (vi x)) M := w_iret mC_120 d120_61 rfl
theorem d121_0 : decode cX11_led 0 = .ok (.iload_n 1, 1) := by decide +kernel
theorem k121_0 {d : Nat} {x : Int32} {l0 : Option PV} {st : List PV} {M : Mem} {Q : Option PV → Mem → Prop} : WP d 121 0 [l0, some (vi x)] (st) M Q = WP d 121 1 [l0, some (vi x)] (vi x :: st) M Q := w1 mC_121 d121_0 rfl rfl
theorem d121_1 : decode cX11_led 1 = .ok (.iconst 0, 1) := by decide +kernel
theorem k121_1 {d : Nat} {l0 l1 : Option PV} {st : List PV} {M : Mem} {Q : Option PV → Mem → Prop} : WP d 121 1 [l0, l1] (st) M Q = WP d 121 2 [l0, l1] (vi 0 :: st) M Q := w_iconst mC_121 d121_1 (by decide)
theorem d121_2 : decode cX11_led 2 = .ok (.iconst 4, 1) := by decide +kernel
theorem k121_2 {d : Nat} {l0 l1 : Option PV} {st : List PV} {M : Mem} {Q : Option PV → Mem → Prop} : WP d 121 2 [l0, l1] (st) M Q = WP d 121 3 [l0, l1] (vi 4 :: st) M Q := w_iconst mC_121 d121_2 (by decide)
theorem d121_3 : decode cX11_led 3 = .ok (.invokestatic 79, 3) := by decide +kernel
theorem k121_3 {d : Nat} {l0 l1 : Option PV} {st : List PV} {M : Mem} {Q : Option PV → Mem → Prop} {a0 a1 a2 : Int32} (hl : szL st ≤ 8) : WP (d + 1) 121 3 [l0, l1] (vi a2 :: vi a1 :: vi a0 :: st) M Q = WP d 141 0 [some (vi a0), some (vi a1), some (vi a2)] [] M (fun v M' => WP (d + 1) 121 6 [l0, l1] (psh v st) M' Q) := w_callS mC_121 d121_3 rfl rfl (Nat.le_of_ble_eq_true rfl) (by decide) rfl hl
theorem d121_6 : decode cX11_led 6 = .ok (.ifCond .eq 15, 3) := by decide +kernel
theorem k121_6 {d : Nat} {l0 l1 : Option PV} {st : List PV} {M : Mem} {Q : Option PV → Mem → Prop} {x : Int32} : WP d 121 6 [l0, l1] (vi x :: st) M Q = (if x = 0 then WP d 121 21 [l0, l1] (st) M Q else WP d 121 9 [l0, l1] (st) M Q) := w_if_eq mC_121 d121_6 (by decide)
theorem d121_9 : decode cX11_led 9 = .ok (.aload_n 0, 1) := by decide +kernel
theorem k121_9 {d x : Nat} {l1 : Option PV} {st : List PV} {M : Mem} {Q : Option PV → Mem → Prop} : WP d 121 9 [some (vr x), l1] (st) M Q = WP d 121 10 [some (vr x), l1] (vr x :: st) M Q := w1 mC_121 d121_9 rfl rfl
theorem d121_10 : decode cX11_led 10 = .ok (.getfield 10, 3) := by decide +kernel
theorem k121_10 {d : Nat} {l0 l1 : Option PV} {st : List PV} {M : Mem} {Q : Option PV → Mem → Prop} {r : Nat} (hk : mK M r = 11) : WP d 121 10 [l0, l1] (vr r :: st) M Q = WP d 121 13 [l0, l1] (vr (mR M r 0) :: st) M Q := w_getr mC_121 d121_10 fE_11_10 rfl (by rw [hk]; rfl)
theorem d121_13 : decode cX11_led 13 = .ok (.getfield 292, 3) := by decide +kernel
theorem k121_13 {d : Nat} {l0 l1 : Option PV} {st : List PV} {M : Mem} {Q : Option PV → Mem → Prop} {r : Nat} (hk : mK M r = 4) : WP d 121 13 [l0, l1] (vr r :: st) M Q = WP d 121 16 [l0, l1] (vr (mR M r 6) :: st) M Q := w_getr mC_121 d121_13 fE_11_292 rfl (by rw [hk]; rfl)
theorem d121_16 : decode cX11_led 16 = .ok (.iload_n 1, 1) := by decide +kernel
theorem k121_16 {d : Nat} {x : Int32} {l0 : Option PV} {st : List PV} {M : Mem} {Q : Option PV → Mem → Prop} : WP d 121 16 [l0, some (vi x)] (st) M Q = WP d 121 17 [l0, some (vi x)] (vi x :: st) M Q := w1 mC_121 d121_16 rfl rfl
theorem d121_17 : decode cX11_led 17 = .ok (.iaload, 1) := by decide +kernel
theorem k121_17 {d : Nat} {l0 l1 : Option PV} {st : List PV} {M : Mem} {Q : Option PV → Mem → Prop} {r : Nat} {j : Int32} (hk : mK M r = 13) (hj : inb j (mN M r)) (_h1 : r ≠ 1) : WP d 121 17 [l0, l1] (vi j :: vr r :: st) M Q = WP d 121 18 [l0, l1] (vi (mI M r (ix j)) :: st) M Q := w_iald mC_121 d121_17 hk hj
theorem d121_18 : decode cX11_led 18 = .ok (.goto 4, 3) := by decide +kernel
theorem k121_18 {d : Nat} {l0 l1 : Option PV} {st : List PV} {M : Mem} {Q : Option PV → Mem → Prop} : WP d 121 18 [l0, l1] (st) M Q = WP d 121 22 [l0, l1] (st) M Q := w_goto mC_121 d121_18 (by decide)
theorem d121_21 : decode cX11_led 21 = .ok (.iconst (-1), 1) := by decide +kernel
theorem k121_21 {d : Nat} {l0 l1 : Option PV} {st : List PV} {M : Mem} {Q : Option PV → Mem → Prop} : WP d 121 21 [l0, l1] (st) M Q = WP d 121 22 [l0, l1] (vi (-1) :: st) M Q := w_iconst mC_121 d121_21 (by decide)
theorem d121_22 : decode cX11_led 22 = .ok (.ireturn, 1) := by decide +kernel
theorem k121_22 {d : Nat} {l0 l1 : Option PV} {M : Mem} {Q : Option PV → Mem → Prop} {x : Int32} : WP d 121 22 [l0, l1] ([vi x]) M Q = Q (some (vi x)) M := w_iret mC_121 d121_22 rfl
theorem d122_0 : decode cX11_image 0 = .ok (.aload_n 0, 1) := by decide +kernel
theorem k122_0 {d x : Nat} {st : List PV} {M : Mem} {Q : Option PV → Mem → Prop} : WP d 122 0 [some (vr x)] (st) M Q = WP d 122 1 [some (vr x)] (vr x :: st) M Q := w1 mC_122 d122_0 rfl rfl
theorem d122_1 : decode cX11_image 1 = .ok (.getfield 19, 3) := by decide +kernel
theorem k122_1 {d : Nat} {l0 : Option PV} {st : List PV} {M : Mem} {Q : Option PV → Mem → Prop} {r : Nat} (hk : mK M r = 11) : WP d 122 1 [l0] (vr r :: st) M Q = WP d 122 4 [l0] (vr (mR M r 2) :: st) M Q := w_getr mC_122 d122_1 fE_11_19 rfl (by rw [hk]; rfl)
theorem d122_4 : decode cX11_image 4 = .ok (.aload_n 0, 1) := by decide +kernel
theorem k122_4 {d x : Nat} {st : List PV} {M : Mem} {Q : Option PV → Mem → Prop} : WP d 122 4 [some (vr x)] (st) M Q = WP d 122 5 [some (vr x)] (vr x :: st) M Q := w1 mC_122 d122_4 rfl rfl
theorem d122_5 : decode cX11_image 5 = .ok (.getfield 10, 3) := by decide +kernel
theorem k122_5 {d : Nat} {l0 : Option PV} {st : List PV} {M : Mem} {Q : Option PV → Mem → Prop} {r : Nat} (hk : mK M r = 11) : WP d 122 5 [l0] (vr r :: st) M Q = WP d 122 8 [l0] (vr (mR M r 0) :: st) M Q := w_getr mC_122 d122_5 fE_11_10 rfl (by rw [hk]; rfl)
theorem d122_8 : decode cX11_image 8 = .ok (.invokevirtual 151, 3) := by decide +kernel
theorem k122_8 {d : Nat} {l0 : Option PV} {st : List PV} {M : Mem} {Q : Option PV → Mem → Prop} {a0 : Nat} {r : Nat} (hl : szL st ≤ 8) (hk : mK M r = 4) : WP (d + 1) 122 8 [l0] (vr a0 :: vr r :: st) M Q = WP d 31 0 [some (vr r), some (vr a0)] [] M (fun v M' => WP (d + 1) 122 11 [l0] (psh v st) M' Q) := w_callV mC_122 d122_8 (ci := 4) rfl rfl rfl (Nat.le_of_ble_eq_true rfl) (by decide) rfl hl (Or.inl hk)
theorem d122_11 : decode cX11_image 11 = .ok (.aload_n 0, 1) := by decide +kernel
theorem k122_11 {d x : Nat} {st : List PV} {M : Mem} {Q : Option PV → Mem → Prop} : WP d 122 11 [some (vr x)] (st) M Q = WP d 122 12 [some (vr x)] (vr x :: st) M Q := w1 mC_122 d122_11 rfl rfl
theorem d122_12 : decode cX11_image 12 = .ok (.iconst 1, 1) := by decide +kernel
theorem k122_12 {d : Nat} {l0 : Option PV} {st : List PV} {M : Mem} {Q : Option PV → Mem → Prop} : WP d 122 12 [l0] (st) M Q = WP d 122 13 [l0] (vi 1 :: st) M Q := w_iconst mC_122 d122_12 (by decide)
theorem d122_13 : decode cX11_image 13 = .ok (.putfield 298, 3) := by decide +kernel
theorem k122_13 {d : Nat} {l0 : Option PV} {st : List PV} {M : Mem} {Q : Option PV → Mem → Prop} {r : Nat} {x : Int32} (hk : mK M r = 11) (hx : x = 0 ∨ x = 1) : WP d 122 13 [l0] (vi x :: vr r :: st) M Q = WP d 122 16 [l0] (st) (sI M r 3 x) Q := w_putb mC_122 d122_13 fE_11_298 (by decide +kernel) (by rw [hk]; rfl) hx
theorem d122_16 : decode cX11_image 16 = .ok (.aload_n 0, 1) := by decide +kernel
theorem k122_16 {d x : Nat} {st : List PV} {M : Mem} {Q : Option PV → Mem → Prop} : WP d 122 16 [some (vr x)] (st) M Q = WP d 122 17 [some (vr x)] (vr x :: st) M Q := w1 mC_122 d122_16 rfl rfl
theorem d122_17 : decode cX11_image 17 = .ok (.getfield 10, 3) := by decide +kernel
theorem k122_17 {d : Nat} {l0 : Option PV} {st : List PV} {M : Mem} {Q : Option PV → Mem → Prop} {r : Nat} (hk : mK M r = 11) : WP d 122 17 [l0] (vr r :: st) M Q = WP d 122 20 [l0] (vr (mR M r 0) :: st) M Q := w_getr mC_122 d122_17 fE_11_10 rfl (by rw [hk]; rfl)
theorem d122_20 : decode cX11_image 20 = .ok (.getfield 292, 3) := by decide +kernel
theorem k122_20 {d : Nat} {l0 : Option PV} {st : List PV} {M : Mem} {Q : Option PV → Mem → Prop} {r : Nat} (hk : mK M r = 4) : WP d 122 20 [l0] (vr r :: st) M Q = WP d 122 23 [l0] (vr (mR M r 6) :: st) M Q := w_getr mC_122 d122_20 fE_11_292 rfl (by rw [hk]; rfl)
theorem d122_23 : decode cX11_image 23 = .ok (.iconst 0, 1) := by decide +kernel
theorem k122_23 {d : Nat} {l0 : Option PV} {st : List PV} {M : Mem} {Q : Option PV → Mem → Prop} : WP d 122 23 [l0] (st) M Q = WP d 122 24 [l0] (vi 0 :: st) M Q := w_iconst mC_122 d122_23 (by decide)
theorem d122_24 : decode cX11_image 24 = .ok (.iaload, 1) := by decide +kernel
theorem k122_24 {d : Nat} {l0 : Option PV} {st : List PV} {M : Mem} {Q : Option PV → Mem → Prop} {r : Nat} {j : Int32} (hk : mK M r = 13) (hj : inb j (mN M r)) (_h1 : r ≠ 1) : WP d 122 24 [l0] (vi j :: vr r :: st) M Q = WP d 122 25 [l0] (vi (mI M r (ix j)) :: st) M Q := w_iald mC_122 d122_24 hk hj
theorem d122_25 : decode cX11_image 25 = .ok (.ireturn, 1) := by decide +kernel
theorem k122_25 {d : Nat} {l0 : Option PV} {M : Mem} {Q : Option PV → Mem → Prop} {x : Int32} : WP d 122 25 [l0] ([vi x]) M Q = Q (some (vi x)) M := w_iret mC_122 d122_25 rfl
theorem d123_0 : decode cX11_back 0 = .ok (.aload_n 0, 1) := by decide +kernel
theorem k123_0 {d x : Nat} {st : List PV} {M : Mem} {Q : Option PV → Mem → Prop} : WP d 123 0 [some (vr x)] (st) M Q = WP d 123 1 [some (vr x)] (vr x :: st) M Q := w1 mC_123 d123_0 rfl rfl
theorem d123_1 : decode cX11_back 1 = .ok (.getfield 298, 3) := by decide +kernel
theorem k123_1 {d : Nat} {l0 : Option PV} {st : List PV} {M : Mem} {Q : Option PV → Mem → Prop} {r : Nat} (hk : mK M r = 11) : WP d 123 1 [l0] (vr r :: st) M Q = WP d 123 4 [l0] (vi (mI M r 3) :: st) M Q := w_get mC_123 d123_1 fE_11_298 rfl (by rw [hk]; rfl)
theorem d123_4 : decode cX11_back 4 = .ok (.ifCond .ne 6, 3) := by decide +kernel
theorem k123_4 {d : Nat} {l0 : Option PV} {st : List PV} {M : Mem} {Q : Option PV → Mem → Prop} {x : Int32} : WP d 123 4 [l0] (vi x :: st) M Q = (if x = 0 then WP d 123 7 [l0] (st) M Q else WP d 123 10 [l0] (st) M Q) := w_if_ne mC_123 d123_4 (by decide)
theorem d123_7 : decode cX11_back 7 = .ok (.bipush (-5), 2) := by decide +kernel
theorem k123_7 {d : Nat} {l0 : Option PV} {st : List PV} {M : Mem} {Q : Option PV → Mem → Prop} : WP d 123 7 [l0] (st) M Q = WP d 123 9 [l0] (vi (-5) :: st) M Q := w_bipush mC_123 d123_7 (by decide)
theorem d123_9 : decode cX11_back 9 = .ok (.ireturn, 1) := by decide +kernel
theorem k123_9 {d : Nat} {l0 : Option PV} {M : Mem} {Q : Option PV → Mem → Prop} {x : Int32} : WP d 123 9 [l0] ([vi x]) M Q = Q (some (vi x)) M := w_iret mC_123 d123_9 rfl
theorem d123_10 : decode cX11_back 10 = .ok (.aload_n 0, 1) := by decide +kernel
theorem k123_10 {d x : Nat} {st : List PV} {M : Mem} {Q : Option PV → Mem → Prop} : WP d 123 10 [some (vr x)] (st) M Q = WP d 123 11 [some (vr x)] (vr x :: st) M Q := w1 mC_123 d123_10 rfl rfl
theorem d123_11 : decode cX11_back 11 = .ok (.getfield 10, 3) := by decide +kernel
theorem k123_11 {d : Nat} {l0 : Option PV} {st : List PV} {M : Mem} {Q : Option PV → Mem → Prop} {r : Nat} (hk : mK M r = 11) : WP d 123 11 [l0] (vr r :: st) M Q = WP d 123 14 [l0] (vr (mR M r 0) :: st) M Q := w_getr mC_123 d123_11 fE_11_10 rfl (by rw [hk]; rfl)
theorem d123_14 : decode cX11_back 14 = .ok (.aload_n 0, 1) := by decide +kernel
theorem k123_14 {d x : Nat} {st : List PV} {M : Mem} {Q : Option PV → Mem → Prop} : WP d 123 14 [some (vr x)] (st) M Q = WP d 123 15 [some (vr x)] (vr x :: st) M Q := w1 mC_123 d123_14 rfl rfl
theorem d123_15 : decode cX11_back 15 = .ok (.getfield 19, 3) := by decide +kernel
theorem k123_15 {d : Nat} {l0 : Option PV} {st : List PV} {M : Mem} {Q : Option PV → Mem → Prop} {r : Nat} (hk : mK M r = 11) : WP d 123 15 [l0] (vr r :: st) M Q = WP d 123 18 [l0] (vr (mR M r 2) :: st) M Q := w_getr mC_123 d123_15 fE_11_19 rfl (by rw [hk]; rfl)
theorem d123_18 : decode cX11_back 18 = .ok (.invokevirtual 302, 3) := by decide +kernel
theorem k123_18 {d : Nat} {l0 : Option PV} {st : List PV} {M : Mem} {Q : Option PV → Mem → Prop} {a0 : Nat} {r : Nat} (hl : szL st ≤ 8) (hk : mK M r = 4) : WP (d + 1) 123 18 [l0] (vr a0 :: vr r :: st) M Q = WP d 32 0 [some (vr r), some (vr a0)] [] M (fun v M' => WP (d + 1) 123 21 [l0] (psh v st) M' Q) := w_callV mC_123 d123_18 (ci := 4) rfl rfl rfl (Nat.le_of_ble_eq_true rfl) (by decide) rfl hl (Or.inl hk)
theorem d123_21 : decode cX11_back 21 = .ok (.aload_n 0, 1) := by decide +kernel
theorem k123_21 {d x : Nat} {st : List PV} {M : Mem} {Q : Option PV → Mem → Prop} : WP d 123 21 [some (vr x)] (st) M Q = WP d 123 22 [some (vr x)] (vr x :: st) M Q := w1 mC_123 d123_21 rfl rfl
theorem d123_22 : decode cX11_back 22 = .ok (.getfield 10, 3) := by decide +kernel
theorem k123_22 {d : Nat} {l0 : Option PV} {st : List PV} {M : Mem} {Q : Option PV → Mem → Prop} {r : Nat} (hk : mK M r = 11) : WP d 123 22 [l0] (vr r :: st) M Q = WP d 123 25 [l0] (vr (mR M r 0) :: st) M Q := w_getr mC_123 d123_22 fE_11_10 rfl (by rw [hk]; rfl)
theorem d123_25 : decode cX11_back 25 = .ok (.getfield 292, 3) := by decide +kernel
theorem k123_25 {d : Nat} {l0 : Option PV} {st : List PV} {M : Mem} {Q : Option PV → Mem → Prop} {r : Nat} (hk : mK M r = 4) : WP d 123 25 [l0] (vr r :: st) M Q = WP d 123 28 [l0] (vr (mR M r 6) :: st) M Q := w_getr mC_123 d123_25 fE_11_292 rfl (by rw [hk]; rfl)
theorem d123_28 : decode cX11_back 28 = .ok (.iconst 0, 1) := by decide +kernel
theorem k123_28 {d : Nat} {l0 : Option PV} {st : List PV} {M : Mem} {Q : Option PV → Mem → Prop} : WP d 123 28 [l0] (st) M Q = WP d 123 29 [l0] (vi 0 :: st) M Q := w_iconst mC_123 d123_28 (by decide)
theorem d123_29 : decode cX11_back 29 = .ok (.iaload, 1) := by decide +kernel
theorem k123_29 {d : Nat} {l0 : Option PV} {st : List PV} {M : Mem} {Q : Option PV → Mem → Prop} {r : Nat} {j : Int32} (hk : mK M r = 13) (hj : inb j (mN M r)) (_h1 : r ≠ 1) : WP d 123 29 [l0] (vi j :: vr r :: st) M Q = WP d 123 30 [l0] (vi (mI M r (ix j)) :: st) M Q := w_iald mC_123 d123_29 hk hj
theorem d123_30 : decode cX11_back 30 = .ok (.ireturn, 1) := by decide +kernel
theorem k123_30 {d : Nat} {l0 : Option PV} {M : Mem} {Q : Option PV → Mem → Prop} {x : Int32} : WP d 123 30 [l0] ([vi x]) M Q = Q (some (vi x)) M := w_iret mC_123 d123_30 rfl
theorem d124_0 : decode cX11_noteChange 0 = .ok (.aload_n 0, 1) := by decide +kernel
theorem k124_0 {d x : Nat} {l1 l2 l3 l4 l5 : Option PV} {st : List PV} {M : Mem} {Q : Option PV → Mem → Prop} : WP d 124 0 [some (vr x), l1, l2, l3, l4, l5] (st) M Q = WP d 124 1 [some (vr x), l1, l2, l3, l4, l5] (vr x :: st) M Q := w1 mC_124 d124_0 rfl rfl
theorem d124_1 : decode cX11_noteChange 1 = .ok (.getfield 305, 3) := by decide +kernel
theorem k124_1 {d : Nat} {l0 l1 l2 l3 l4 l5 : Option PV} {st : List PV} {M : Mem} {Q : Option PV → Mem → Prop} {r : Nat} (hk : mK M r = 11) : WP d 124 1 [l0, l1, l2, l3, l4, l5] (vr r :: st) M Q = WP d 124 4 [l0, l1, l2, l3, l4, l5] (vi (mI M r 10) :: st) M Q := w_get mC_124 d124_1 fE_11_305 rfl (by rw [hk]; rfl)
theorem d124_4 : decode cX11_noteChange 4 = .ok (.bipush 40, 2) := by decide +kernel
theorem k124_4 {d : Nat} {l0 l1 l2 l3 l4 l5 : Option PV} {st : List PV} {M : Mem} {Q : Option PV → Mem → Prop} : WP d 124 4 [l0, l1, l2, l3, l4, l5] (st) M Q = WP d 124 6 [l0, l1, l2, l3, l4, l5] (vi 40 :: st) M Q := w_bipush mC_124 d124_4 (by decide)
theorem d124_6 : decode cX11_noteChange 6 = .ok (.if_icmp .lt 7, 3) := by decide +kernel
theorem k124_6 {d : Nat} {l0 l1 l2 l3 l4 l5 : Option PV} {st : List PV} {M : Mem} {Q : Option PV → Mem → Prop} {x y : Int32} : WP d 124 6 [l0, l1, l2, l3, l4, l5] (vi y :: vi x :: st) M Q = (if x < y then WP d 124 13 [l0, l1, l2, l3, l4, l5] (st) M Q else WP d 124 9 [l0, l1, l2, l3, l4, l5] (st) M Q) := w_ic_lt mC_124 d124_6 (by decide)
theorem d124_9 : decode cX11_noteChange 9 = .ok (.aload_n 0, 1) := by decide +kernel
theorem k124_9 {d x : Nat} {l1 l2 l3 l4 l5 : Option PV} {st : List PV} {M : Mem} {Q : Option PV → Mem → Prop} : WP d 124 9 [some (vr x), l1, l2, l3, l4, l5] (st) M Q = WP d 124 10 [some (vr x), l1, l2, l3, l4, l5] (vr x :: st) M Q := w1 mC_124 d124_9 rfl rfl
theorem d124_10 : decode cX11_noteChange 10 = .ok (.invokevirtual 308, 3) := by decide +kernel
theorem k124_10 {d : Nat} {l0 l1 l2 l3 l4 l5 : Option PV} {st : List PV} {M : Mem} {Q : Option PV → Mem → Prop} {r : Nat} (hl : szL st ≤ 8) (hk : mK M r = 11) : WP (d + 1) 124 10 [l0, l1, l2, l3, l4, l5] (vr r :: st) M Q = WP d 125 0 [some (vr r), none] [] M (fun v M' => WP (d + 1) 124 13 [l0, l1, l2, l3, l4, l5] (psh v st) M' Q) := w_callV mC_124 d124_10 (ci := 11) rfl rfl rfl (Nat.le_of_ble_eq_true rfl) (by decide) rfl hl (Or.inl hk)
theorem d124_13 : decode cX11_noteChange 13 = .ok (.aload_n 0, 1) := by decide +kernel
theorem k124_13 {d x : Nat} {l1 l2 l3 l4 l5 : Option PV} {st : List PV} {M : Mem} {Q : Option PV → Mem → Prop} : WP d 124 13 [some (vr x), l1, l2, l3, l4, l5] (st) M Q = WP d 124 14 [some (vr x), l1, l2, l3, l4, l5] (vr x :: st) M Q := w1 mC_124 d124_13 rfl rfl
theorem d124_14 : decode cX11_noteChange 14 = .ok (.getfield 38, 3) := by decide +kernel
theorem k124_14 {d : Nat} {l0 l1 l2 l3 l4 l5 : Option PV} {st : List PV} {M : Mem} {Q : Option PV → Mem → Prop} {r : Nat} (hk : mK M r = 11) : WP d 124 14 [l0, l1, l2, l3, l4, l5] (vr r :: st) M Q = WP d 124 17 [l0, l1, l2, l3, l4, l5] (vr (mR M r 8) :: st) M Q := w_getr mC_124 d124_14 fE_11_38 rfl (by rw [hk]; rfl)
theorem d124_17 : decode cX11_noteChange 17 = .ok (.aload_n 0, 1) := by decide +kernel
theorem k124_17 {d x : Nat} {l1 l2 l3 l4 l5 : Option PV} {st : List PV} {M : Mem} {Q : Option PV → Mem → Prop} : WP d 124 17 [some (vr x), l1, l2, l3, l4, l5] (st) M Q = WP d 124 18 [some (vr x), l1, l2, l3, l4, l5] (vr x :: st) M Q := w1 mC_124 d124_17 rfl rfl
theorem d124_18 : decode cX11_noteChange 18 = .ok (.getfield 305, 3) := by decide +kernel
theorem k124_18 {d : Nat} {l0 l1 l2 l3 l4 l5 : Option PV} {st : List PV} {M : Mem} {Q : Option PV → Mem → Prop} {r : Nat} (hk : mK M r = 11) : WP d 124 18 [l0, l1, l2, l3, l4, l5] (vr r :: st) M Q = WP d 124 21 [l0, l1, l2, l3, l4, l5] (vi (mI M r 10) :: st) M Q := w_get mC_124 d124_18 fE_11_305 rfl (by rw [hk]; rfl)
theorem d124_21 : decode cX11_noteChange 21 = .ok (.aaload, 1) := by decide +kernel
theorem k124_21 {d : Nat} {l0 l1 l2 l3 l4 l5 : Option PV} {st : List PV} {M : Mem} {Q : Option PV → Mem → Prop} {r : Nat} {j : Int32} (hk : mK M r = 15 ∨ mK M r = 16 ∨ mK M r = 17) (hj : inb j (mN M r)) (h1 : r ≠ 1) : WP d 124 21 [l0, l1, l2, l3, l4, l5] (vi j :: vr r :: st) M Q = WP d 124 22 [l0, l1, l2, l3, l4, l5] (vr (mR M r (ix j)) :: st) M Q := w_aald mC_124 d124_21 hk hj h1
theorem d124_22 : decode cX11_noteChange 22 = .ok (.astore 5, 2) := by decide +kernel
theorem k124_22 {d : Nat} {l0 l1 l2 l3 l4 l5 : Option PV} {st : List PV} {M : Mem} {Q : Option PV → Mem → Prop} {x : Nat} : WP d 124 22 [l0, l1, l2, l3, l4, l5] (vr x :: st) M Q = WP d 124 24 [l0, l1, l2, l3, l4, some (vr x)] (st) M Q := w1 mC_124 d124_22 rfl rfl
theorem d124_24 : decode cX11_noteChange 24 = .ok (.aload 5, 2) := by decide +kernel
theorem k124_24 {d x : Nat} {l0 l1 l2 l3 l4 : Option PV} {st : List PV} {M : Mem} {Q : Option PV → Mem → Prop} : WP d 124 24 [l0, l1, l2, l3, l4, some (vr x)] (st) M Q = WP d 124 26 [l0, l1, l2, l3, l4, some (vr x)] (vr x :: st) M Q := w1 mC_124 d124_24 rfl rfl
theorem d124_26 : decode cX11_noteChange 26 = .ok (.iconst 0, 1) := by decide +kernel
theorem k124_26 {d : Nat} {l0 l1 l2 l3 l4 l5 : Option PV} {st : List PV} {M : Mem} {Q : Option PV → Mem → Prop} : WP d 124 26 [l0, l1, l2, l3, l4, l5] (st) M Q = WP d 124 27 [l0, l1, l2, l3, l4, l5] (vi 0 :: st) M Q := w_iconst mC_124 d124_26 (by decide)
theorem d124_27 : decode cX11_noteChange 27 = .ok (.iload_n 1, 1) := by decide +kernel
theorem k124_27 {d : Nat} {x : Int32} {l0 l2 l3 l4 l5 : Option PV} {st : List PV} {M : Mem} {Q : Option PV → Mem → Prop} : WP d 124 27 [l0, some (vi x), l2, l3, l4, l5] (st) M Q = WP d 124 28 [l0, some (vi x), l2, l3, l4, l5] (vi x :: st) M Q := w1 mC_124 d124_27 rfl rfl
theorem d124_28 : decode cX11_noteChange 28 = .ok (.iastore, 1) := by decide +kernel
theorem k124_28 {d : Nat} {l0 l1 l2 l3 l4 l5 : Option PV} {st : List PV} {M : Mem} {Q : Option PV → Mem → Prop} {r : Nat} {j x : Int32} (hk : mK M r = 13) (hj : inb j (mN M r)) (h1 : r ≠ 1) : WP d 124 28 [l0, l1, l2, l3, l4, l5] (vi x :: vi j :: vr r :: st) M Q = WP d 124 29 [l0, l1, l2, l3, l4, l5] (st) (sI M r (ix j) x) Q := w_iast mC_124 d124_28 hk hj h1
theorem d124_29 : decode cX11_noteChange 29 = .ok (.aload 5, 2) := by decide +kernel
theorem k124_29 {d x : Nat} {l0 l1 l2 l3 l4 : Option PV} {st : List PV} {M : Mem} {Q : Option PV → Mem → Prop} : WP d 124 29 [l0, l1, l2, l3, l4, some (vr x)] (st) M Q = WP d 124 31 [l0, l1, l2, l3, l4, some (vr x)] (vr x :: st) M Q := w1 mC_124 d124_29 rfl rfl
theorem d124_31 : decode cX11_noteChange 31 = .ok (.iconst 1, 1) := by decide +kernel
theorem k124_31 {d : Nat} {l0 l1 l2 l3 l4 l5 : Option PV} {st : List PV} {M : Mem} {Q : Option PV → Mem → Prop} : WP d 124 31 [l0, l1, l2, l3, l4, l5] (st) M Q = WP d 124 32 [l0, l1, l2, l3, l4, l5] (vi 1 :: st) M Q := w_iconst mC_124 d124_31 (by decide)
theorem d124_32 : decode cX11_noteChange 32 = .ok (.iload_n 2, 1) := by decide +kernel
theorem k124_32 {d : Nat} {x : Int32} {l0 l1 l3 l4 l5 : Option PV} {st : List PV} {M : Mem} {Q : Option PV → Mem → Prop} : WP d 124 32 [l0, l1, some (vi x), l3, l4, l5] (st) M Q = WP d 124 33 [l0, l1, some (vi x), l3, l4, l5] (vi x :: st) M Q := w1 mC_124 d124_32 rfl rfl
theorem d124_33 : decode cX11_noteChange 33 = .ok (.iastore, 1) := by decide +kernel
theorem k124_33 {d : Nat} {l0 l1 l2 l3 l4 l5 : Option PV} {st : List PV} {M : Mem} {Q : Option PV → Mem → Prop} {r : Nat} {j x : Int32} (hk : mK M r = 13) (hj : inb j (mN M r)) (h1 : r ≠ 1) : WP d 124 33 [l0, l1, l2, l3, l4, l5] (vi x :: vi j :: vr r :: st) M Q = WP d 124 34 [l0, l1, l2, l3, l4, l5] (st) (sI M r (ix j) x) Q := w_iast mC_124 d124_33 hk hj h1
theorem d124_34 : decode cX11_noteChange 34 = .ok (.aload 5, 2) := by decide +kernel
theorem k124_34 {d x : Nat} {l0 l1 l2 l3 l4 : Option PV} {st : List PV} {M : Mem} {Q : Option PV → Mem → Prop} : WP d 124 34 [l0, l1, l2, l3, l4, some (vr x)] (st) M Q = WP d 124 36 [l0, l1, l2, l3, l4, some (vr x)] (vr x :: st) M Q := w1 mC_124 d124_34 rfl rfl
theorem d124_36 : decode cX11_noteChange 36 = .ok (.iconst 2, 1) := by decide +kernel
theorem k124_36 {d : Nat} {l0 l1 l2 l3 l4 l5 : Option PV} {st : List PV} {M : Mem} {Q : Option PV → Mem → Prop} : WP d 124 36 [l0, l1, l2, l3, l4, l5] (st) M Q = WP d 124 37 [l0, l1, l2, l3, l4, l5] (vi 2 :: st) M Q := w_iconst mC_124 d124_36 (by decide)
theorem d124_37 : decode cX11_noteChange 37 = .ok (.iload_n 3, 1) := by decide +kernel
theorem k124_37 {d : Nat} {x : Int32} {l0 l1 l2 l4 l5 : Option PV} {st : List PV} {M : Mem} {Q : Option PV → Mem → Prop} : WP d 124 37 [l0, l1, l2, some (vi x), l4, l5] (st) M Q = WP d 124 38 [l0, l1, l2, some (vi x), l4, l5] (vi x :: st) M Q := w1 mC_124 d124_37 rfl rfl
theorem d124_38 : decode cX11_noteChange 38 = .ok (.iastore, 1) := by decide +kernel
theorem k124_38 {d : Nat} {l0 l1 l2 l3 l4 l5 : Option PV} {st : List PV} {M : Mem} {Q : Option PV → Mem → Prop} {r : Nat} {j x : Int32} (hk : mK M r = 13) (hj : inb j (mN M r)) (h1 : r ≠ 1) : WP d 124 38 [l0, l1, l2, l3, l4, l5] (vi x :: vi j :: vr r :: st) M Q = WP d 124 39 [l0, l1, l2, l3, l4, l5] (st) (sI M r (ix j) x) Q := w_iast mC_124 d124_38 hk hj h1
theorem d124_39 : decode cX11_noteChange 39 = .ok (.aload 5, 2) := by decide +kernel
theorem k124_39 {d x : Nat} {l0 l1 l2 l3 l4 : Option PV} {st : List PV} {M : Mem} {Q : Option PV → Mem → Prop} : WP d 124 39 [l0, l1, l2, l3, l4, some (vr x)] (st) M Q = WP d 124 41 [l0, l1, l2, l3, l4, some (vr x)] (vr x :: st) M Q := w1 mC_124 d124_39 rfl rfl
theorem d124_41 : decode cX11_noteChange 41 = .ok (.iconst 3, 1) := by decide +kernel
theorem k124_41 {d : Nat} {l0 l1 l2 l3 l4 l5 : Option PV} {st : List PV} {M : Mem} {Q : Option PV → Mem → Prop} : WP d 124 41 [l0, l1, l2, l3, l4, l5] (st) M Q = WP d 124 42 [l0, l1, l2, l3, l4, l5] (vi 3 :: st) M Q := w_iconst mC_124 d124_41 (by decide)
theorem d124_42 : decode cX11_noteChange 42 = .ok (.iload 4, 2) := by decide +kernel
theorem k124_42 {d : Nat} {x : Int32} {l0 l1 l2 l3 l5 : Option PV} {st : List PV} {M : Mem} {Q : Option PV → Mem → Prop} : WP d 124 42 [l0, l1, l2, l3, some (vi x), l5] (st) M Q = WP d 124 44 [l0, l1, l2, l3, some (vi x), l5] (vi x :: st) M Q := w1 mC_124 d124_42 rfl rfl
theorem d124_44 : decode cX11_noteChange 44 = .ok (.iastore, 1) := by decide +kernel
theorem k124_44 {d : Nat} {l0 l1 l2 l3 l4 l5 : Option PV} {st : List PV} {M : Mem} {Q : Option PV → Mem → Prop} {r : Nat} {j x : Int32} (hk : mK M r = 13) (hj : inb j (mN M r)) (h1 : r ≠ 1) : WP d 124 44 [l0, l1, l2, l3, l4, l5] (vi x :: vi j :: vr r :: st) M Q = WP d 124 45 [l0, l1, l2, l3, l4, l5] (st) (sI M r (ix j) x) Q := w_iast mC_124 d124_44 hk hj h1
theorem d124_45 : decode cX11_noteChange 45 = .ok (.aload_n 0, 1) := by decide +kernel
theorem k124_45 {d x : Nat} {l1 l2 l3 l4 l5 : Option PV} {st : List PV} {M : Mem} {Q : Option PV → Mem → Prop} : WP d 124 45 [some (vr x), l1, l2, l3, l4, l5] (st) M Q = WP d 124 46 [some (vr x), l1, l2, l3, l4, l5] (vr x :: st) M Q := w1 mC_124 d124_45 rfl rfl
theorem d124_46 : decode cX11_noteChange 46 = .ok (.dup, 1) := by decide +kernel
theorem k124_46 {d : Nat} {l0 l1 l2 l3 l4 l5 : Option PV} {st : List PV} {M : Mem} {Q : Option PV → Mem → Prop} {x : Nat} : WP d 124 46 [l0, l1, l2, l3, l4, l5] (vr x :: st) M Q = WP d 124 47 [l0, l1, l2, l3, l4, l5] (vr x :: vr x :: st) M Q := w1 mC_124 d124_46 rfl rfl
theorem k124_46i {d : Nat} {l0 l1 l2 l3 l4 l5 : Option PV} {st : List PV} {M : Mem} {Q : Option PV → Mem → Prop} {x : Int32} : WP d 124 46 [l0, l1, l2, l3, l4, l5] (vi x :: st) M Q = WP d 124 47 [l0, l1, l2, l3, l4, l5] (vi x :: vi x :: st) M Q := w1 mC_124 d124_46 rfl rfl
theorem d124_47 : decode cX11_noteChange 47 = .ok (.getfield 305, 3) := by decide +kernel
theorem k124_47 {d : Nat} {l0 l1 l2 l3 l4 l5 : Option PV} {st : List PV} {M : Mem} {Q : Option PV → Mem → Prop} {r : Nat} (hk : mK M r = 11) : WP d 124 47 [l0, l1, l2, l3, l4, l5] (vr r :: st) M Q = WP d 124 50 [l0, l1, l2, l3, l4, l5] (vi (mI M r 10) :: st) M Q := w_get mC_124 d124_47 fE_11_305 rfl (by rw [hk]; rfl)
theorem d124_50 : decode cX11_noteChange 50 = .ok (.iconst 1, 1) := by decide +kernel
theorem k124_50 {d : Nat} {l0 l1 l2 l3 l4 l5 : Option PV} {st : List PV} {M : Mem} {Q : Option PV → Mem → Prop} : WP d 124 50 [l0, l1, l2, l3, l4, l5] (st) M Q = WP d 124 51 [l0, l1, l2, l3, l4, l5] (vi 1 :: st) M Q := w_iconst mC_124 d124_50 (by decide)
theorem d124_51 : decode cX11_noteChange 51 = .ok (.iadd, 1) := by decide +kernel
theorem k124_51 {d : Nat} {l0 l1 l2 l3 l4 l5 : Option PV} {st : List PV} {M : Mem} {Q : Option PV → Mem → Prop} {x y : Int32} : WP d 124 51 [l0, l1, l2, l3, l4, l5] (vi y :: vi x :: st) M Q = WP d 124 52 [l0, l1, l2, l3, l4, l5] (vi (x + y) :: st) M Q := w1 mC_124 d124_51 rfl rfl
theorem d124_52 : decode cX11_noteChange 52 = .ok (.putfield 305, 3) := by decide +kernel
theorem k124_52 {d : Nat} {l0 l1 l2 l3 l4 l5 : Option PV} {st : List PV} {M : Mem} {Q : Option PV → Mem → Prop} {r : Nat} {x : Int32} (hk : mK M r = 11) : WP d 124 52 [l0, l1, l2, l3, l4, l5] (vi x :: vr r :: st) M Q = WP d 124 55 [l0, l1, l2, l3, l4, l5] (st) (sI M r 10 x) Q := w_put mC_124 d124_52 fE_11_305 (by decide +kernel) (by rw [hk]; rfl)
theorem d124_55 : decode cX11_noteChange 55 = .ok (.aload_n 0, 1) := by decide +kernel
theorem k124_55 {d x : Nat} {l1 l2 l3 l4 l5 : Option PV} {st : List PV} {M : Mem} {Q : Option PV → Mem → Prop} : WP d 124 55 [some (vr x), l1, l2, l3, l4, l5] (st) M Q = WP d 124 56 [some (vr x), l1, l2, l3, l4, l5] (vr x :: st) M Q := w1 mC_124 d124_55 rfl rfl
theorem d124_56 : decode cX11_noteChange 56 = .ok (.aload_n 0, 1) := by decide +kernel
theorem k124_56 {d x : Nat} {l1 l2 l3 l4 l5 : Option PV} {st : List PV} {M : Mem} {Q : Option PV → Mem → Prop} : WP d 124 56 [some (vr x), l1, l2, l3, l4, l5] (st) M Q = WP d 124 57 [some (vr x), l1, l2, l3, l4, l5] (vr x :: st) M Q := w1 mC_124 d124_56 rfl rfl
theorem d124_57 : decode cX11_noteChange 57 = .ok (.getfield 305, 3) := by decide +kernel
theorem k124_57 {d : Nat} {l0 l1 l2 l3 l4 l5 : Option PV} {st : List PV} {M : Mem} {Q : Option PV → Mem → Prop} {r : Nat} (hk : mK M r = 11) : WP d 124 57 [l0, l1, l2, l3, l4, l5] (vr r :: st) M Q = WP d 124 60 [l0, l1, l2, l3, l4, l5] (vi (mI M r 10) :: st) M Q := w_get mC_124 d124_57 fE_11_305 rfl (by rw [hk]; rfl)
theorem d124_60 : decode cX11_noteChange 60 = .ok (.putfield 311, 3) := by decide +kernel
theorem k124_60 {d : Nat} {l0 l1 l2 l3 l4 l5 : Option PV} {st : List PV} {M : Mem} {Q : Option PV → Mem → Prop} {r : Nat} {x : Int32} (hk : mK M r = 11) : WP d 124 60 [l0, l1, l2, l3, l4, l5] (vi x :: vr r :: st) M Q = WP d 124 63 [l0, l1, l2, l3, l4, l5] (st) (sI M r 9 x) Q := w_put mC_124 d124_60 fE_11_311 (by decide +kernel) (by rw [hk]; rfl)
theorem d124_63 : decode cX11_noteChange 63 = .ok (.return_, 1) := by decide +kernel
theorem k124_63 {d : Nat} {l0 l1 l2 l3 l4 l5 : Option PV} {M : Mem} {Q : Option PV → Mem → Prop} : WP d 124 63 [l0, l1, l2, l3, l4, l5] ([]) M Q = Q none M := w_vret mC_124 d124_63 rfl
theorem d125_0 : decode cX11_forgetOldestChange 0 = .ok (.iconst 1, 1) := by decide +kernel
theorem k125_0 {d : Nat} {l0 l1 : Option PV} {st : List PV} {M : Mem} {Q : Option PV → Mem → Prop} : WP d 125 0 [l0, l1] (st) M Q = WP d 125 1 [l0, l1] (vi 1 :: st) M Q := w_iconst mC_125 d125_0 (by decide)
theorem d125_1 : decode cX11_forgetOldestChange 1 = .ok (.istore_n 1, 1) := by decide +kernel
theorem k125_1 {d : Nat} {l0 l1 : Option PV} {st : List PV} {M : Mem} {Q : Option PV → Mem → Prop} {x : Int32} : WP d 125 1 [l0, l1] (vi x :: st) M Q = WP d 125 2 [l0, some (vi x)] (st) M Q := w1 mC_125 d125_1 rfl rfl
theorem d125_2 : decode cX11_forgetOldestChange 2 = .ok (.iload_n 1, 1) := by decide +kernel
theorem k125_2 {d : Nat} {x : Int32} {l0 : Option PV} {st : List PV} {M : Mem} {Q : Option PV → Mem → Prop} : WP d 125 2 [l0, some (vi x)] (st) M Q = WP d 125 3 [l0, some (vi x)] (vi x :: st) M Q := w1 mC_125 d125_2 rfl rfl
theorem d125_3 : decode cX11_forgetOldestChange 3 = .ok (.bipush 40, 2) := by decide +kernel
theorem k125_3 {d : Nat} {l0 l1 : Option PV} {st : List PV} {M : Mem} {Q : Option PV → Mem → Prop} : WP d 125 3 [l0, l1] (st) M Q = WP d 125 5 [l0, l1] (vi 40 :: st) M Q := w_bipush mC_125 d125_3 (by decide)
theorem d125_5 : decode cX11_forgetOldestChange 5 = .ok (.if_icmp .ge 29, 3) := by decide +kernel
theorem k125_5 {d : Nat} {l0 l1 : Option PV} {st : List PV} {M : Mem} {Q : Option PV → Mem → Prop} {x y : Int32} : WP d 125 5 [l0, l1] (vi y :: vi x :: st) M Q = (if y ≤ x then WP d 125 34 [l0, l1] (st) M Q else WP d 125 8 [l0, l1] (st) M Q) := w_ic_ge mC_125 d125_5 (by decide)
theorem d125_8 : decode cX11_forgetOldestChange 8 = .ok (.aload_n 0, 1) := by decide +kernel
theorem k125_8 {d x : Nat} {l1 : Option PV} {st : List PV} {M : Mem} {Q : Option PV → Mem → Prop} : WP d 125 8 [some (vr x), l1] (st) M Q = WP d 125 9 [some (vr x), l1] (vr x :: st) M Q := w1 mC_125 d125_8 rfl rfl
theorem d125_9 : decode cX11_forgetOldestChange 9 = .ok (.getfield 38, 3) := by decide +kernel
theorem k125_9 {d : Nat} {l0 l1 : Option PV} {st : List PV} {M : Mem} {Q : Option PV → Mem → Prop} {r : Nat} (hk : mK M r = 11) : WP d 125 9 [l0, l1] (vr r :: st) M Q = WP d 125 12 [l0, l1] (vr (mR M r 8) :: st) M Q := w_getr mC_125 d125_9 fE_11_38 rfl (by rw [hk]; rfl)
theorem d125_12 : decode cX11_forgetOldestChange 12 = .ok (.iload_n 1, 1) := by decide +kernel
theorem k125_12 {d : Nat} {x : Int32} {l0 : Option PV} {st : List PV} {M : Mem} {Q : Option PV → Mem → Prop} : WP d 125 12 [l0, some (vi x)] (st) M Q = WP d 125 13 [l0, some (vi x)] (vi x :: st) M Q := w1 mC_125 d125_12 rfl rfl
theorem d125_13 : decode cX11_forgetOldestChange 13 = .ok (.aaload, 1) := by decide +kernel
theorem k125_13 {d : Nat} {l0 l1 : Option PV} {st : List PV} {M : Mem} {Q : Option PV → Mem → Prop} {r : Nat} {j : Int32} (hk : mK M r = 15 ∨ mK M r = 16 ∨ mK M r = 17) (hj : inb j (mN M r)) (h1 : r ≠ 1) : WP d 125 13 [l0, l1] (vi j :: vr r :: st) M Q = WP d 125 14 [l0, l1] (vr (mR M r (ix j)) :: st) M Q := w_aald mC_125 d125_13 hk hj h1
theorem d125_14 : decode cX11_forgetOldestChange 14 = .ok (.iconst 0, 1) := by decide +kernel
theorem k125_14 {d : Nat} {l0 l1 : Option PV} {st : List PV} {M : Mem} {Q : Option PV → Mem → Prop} : WP d 125 14 [l0, l1] (st) M Q = WP d 125 15 [l0, l1] (vi 0 :: st) M Q := w_iconst mC_125 d125_14 (by decide)
theorem d125_15 : decode cX11_forgetOldestChange 15 = .ok (.aload_n 0, 1) := by decide +kernel
theorem k125_15 {d x : Nat} {l1 : Option PV} {st : List PV} {M : Mem} {Q : Option PV → Mem → Prop} : WP d 125 15 [some (vr x), l1] (st) M Q = WP d 125 16 [some (vr x), l1] (vr x :: st) M Q := w1 mC_125 d125_15 rfl rfl
theorem d125_16 : decode cX11_forgetOldestChange 16 = .ok (.getfield 38, 3) := by decide +kernel
theorem k125_16 {d : Nat} {l0 l1 : Option PV} {st : List PV} {M : Mem} {Q : Option PV → Mem → Prop} {r : Nat} (hk : mK M r = 11) : WP d 125 16 [l0, l1] (vr r :: st) M Q = WP d 125 19 [l0, l1] (vr (mR M r 8) :: st) M Q := w_getr mC_125 d125_16 fE_11_38 rfl (by rw [hk]; rfl)
theorem d125_19 : decode cX11_forgetOldestChange 19 = .ok (.iload_n 1, 1) := by decide +kernel
theorem k125_19 {d : Nat} {x : Int32} {l0 : Option PV} {st : List PV} {M : Mem} {Q : Option PV → Mem → Prop} : WP d 125 19 [l0, some (vi x)] (st) M Q = WP d 125 20 [l0, some (vi x)] (vi x :: st) M Q := w1 mC_125 d125_19 rfl rfl
theorem d125_20 : decode cX11_forgetOldestChange 20 = .ok (.iconst 1, 1) := by decide +kernel
theorem k125_20 {d : Nat} {l0 l1 : Option PV} {st : List PV} {M : Mem} {Q : Option PV → Mem → Prop} : WP d 125 20 [l0, l1] (st) M Q = WP d 125 21 [l0, l1] (vi 1 :: st) M Q := w_iconst mC_125 d125_20 (by decide)
theorem d125_21 : decode cX11_forgetOldestChange 21 = .ok (.isub, 1) := by decide +kernel
theorem k125_21 {d : Nat} {l0 l1 : Option PV} {st : List PV} {M : Mem} {Q : Option PV → Mem → Prop} {x y : Int32} : WP d 125 21 [l0, l1] (vi y :: vi x :: st) M Q = WP d 125 22 [l0, l1] (vi (x - y) :: st) M Q := w1 mC_125 d125_21 rfl rfl
theorem d125_22 : decode cX11_forgetOldestChange 22 = .ok (.aaload, 1) := by decide +kernel
theorem k125_22 {d : Nat} {l0 l1 : Option PV} {st : List PV} {M : Mem} {Q : Option PV → Mem → Prop} {r : Nat} {j : Int32} (hk : mK M r = 15 ∨ mK M r = 16 ∨ mK M r = 17) (hj : inb j (mN M r)) (h1 : r ≠ 1) : WP d 125 22 [l0, l1] (vi j :: vr r :: st) M Q = WP d 125 23 [l0, l1] (vr (mR M r (ix j)) :: st) M Q := w_aald mC_125 d125_22 hk hj h1
theorem d125_23 : decode cX11_forgetOldestChange 23 = .ok (.iconst 0, 1) := by decide +kernel
theorem k125_23 {d : Nat} {l0 l1 : Option PV} {st : List PV} {M : Mem} {Q : Option PV → Mem → Prop} : WP d 125 23 [l0, l1] (st) M Q = WP d 125 24 [l0, l1] (vi 0 :: st) M Q := w_iconst mC_125 d125_23 (by decide)
theorem d125_24 : decode cX11_forgetOldestChange 24 = .ok (.iconst 4, 1) := by decide +kernel
theorem k125_24 {d : Nat} {l0 l1 : Option PV} {st : List PV} {M : Mem} {Q : Option PV → Mem → Prop} : WP d 125 24 [l0, l1] (st) M Q = WP d 125 25 [l0, l1] (vi 4 :: st) M Q := w_iconst mC_125 d125_24 (by decide)
theorem d125_25 : decode cX11_forgetOldestChange 25 = .ok (.invokestatic 314, 3) := by decide +kernel
theorem k125_25 {d : Nat} {l0 l1 : Option PV} {st : List PV} {M : Mem} {Q : Option PV → Mem → Prop} {a b : Nat} {sp dp q : Int32} (hl : szL st ≤ 8) (h1 : ¬ sp < 0 ∧ ¬ dp < 0 ∧ ¬ q < 0 ∧ ix sp + ix q ≤ mN M b ∧ ix dp + ix q ≤ mN M a ∧ a ≠ 1 ∧ b ≠ 1) (hk : mK M a = 13) (hk2 : mK M b = 13) : WP d 125 25 [l0, l1] (vi q :: vi dp :: vr a :: vi sp :: vr b :: st) M Q = WP d 125 28 [l0, l1] (st) (cI M b (ix sp) a (ix dp) (ix q)) Q := w_copyI mC_125 d125_25 rfl rfl rfl hl h1 hk hk2
theorem k125_25l {d : Nat} {l0 l1 : Option PV} {st : List PV} {M : Mem} {Q : Option PV → Mem → Prop} {a b : Nat} {sp dp q : Int32} (hl : szL st ≤ 8) (h1 : ¬ sp < 0 ∧ ¬ dp < 0 ∧ ¬ q < 0 ∧ ix sp + ix q ≤ mN M b ∧ ix dp + ix q ≤ mN M a ∧ a ≠ 1 ∧ b ≠ 1) (hk : mK M a = 14) (hk2 : mK M b = 14) : WP d 125 25 [l0, l1] (vi q :: vi dp :: vr a :: vi sp :: vr b :: st) M Q = WP d 125 28 [l0, l1] (st) (cJ M b (ix sp) a (ix dp) (ix q)) Q := w_copyJ mC_125 d125_25 rfl rfl rfl hl h1 hk hk2
theorem k125_25b {d : Nat} {l0 l1 : Option PV} {st : List PV} {M : Mem} {Q : Option PV → Mem → Prop} {a b : Nat} {sp dp q : Int32} (hl : szL st ≤ 8) (h1 : ¬ sp < 0 ∧ ¬ dp < 0 ∧ ¬ q < 0 ∧ ix sp + ix q ≤ mN M b ∧ ix dp + ix q ≤ mN M a ∧ a ≠ 1 ∧ b ≠ 1) (hk : mK M a = 18) (hk2 : mK M b = 18 ∨ mK M b = 19) : WP d 125 25 [l0, l1] (vi q :: vi dp :: vr a :: vi sp :: vr b :: st) M Q = WP d 125 28 [l0, l1] (st) (cI M b (ix sp) a (ix dp) (ix q)) Q := w_copyB mC_125 d125_25 rfl rfl rfl hl h1 hk hk2
theorem d125_28 : decode cX11_forgetOldestChange 28 = .ok (.iinc 1 1, 3) := by decide +kernel
theorem k125_28 {d : Nat} {x : Int32} {l0 : Option PV} {st : List PV} {M : Mem} {Q : Option PV → Mem → Prop} : WP d 125 28 [l0, some (vi x)] (st) M Q = WP d 125 31 [l0, some (vi (x + 1))] (st) M Q := w_iinc mC_125 d125_28 rfl (by decide) rfl
theorem d125_31 : decode cX11_forgetOldestChange 31 = .ok (.goto (-29), 3) := by decide +kernel
theorem k125_31 {d : Nat} {l0 l1 : Option PV} {st : List PV} {M : Mem} {Q : Option PV → Mem → Prop} : WP d 125 31 [l0, l1] (st) M Q = WP d 125 2 [l0, l1] (st) M Q := w_goto mC_125 d125_31 (by decide)
theorem d125_34 : decode cX11_forgetOldestChange 34 = .ok (.aload_n 0, 1) := by decide +kernel
theorem k125_34 {d x : Nat} {l1 : Option PV} {st : List PV} {M : Mem} {Q : Option PV → Mem → Prop} : WP d 125 34 [some (vr x), l1] (st) M Q = WP d 125 35 [some (vr x), l1] (vr x :: st) M Q := w1 mC_125 d125_34 rfl rfl
theorem d125_35 : decode cX11_forgetOldestChange 35 = .ok (.bipush 39, 2) := by decide +kernel
theorem k125_35 {d : Nat} {l0 l1 : Option PV} {st : List PV} {M : Mem} {Q : Option PV → Mem → Prop} : WP d 125 35 [l0, l1] (st) M Q = WP d 125 37 [l0, l1] (vi 39 :: st) M Q := w_bipush mC_125 d125_35 (by decide)
theorem d125_37 : decode cX11_forgetOldestChange 37 = .ok (.putfield 305, 3) := by decide +kernel
theorem k125_37 {d : Nat} {l0 l1 : Option PV} {st : List PV} {M : Mem} {Q : Option PV → Mem → Prop} {r : Nat} {x : Int32} (hk : mK M r = 11) : WP d 125 37 [l0, l1] (vi x :: vr r :: st) M Q = WP d 125 40 [l0, l1] (st) (sI M r 10 x) Q := w_put mC_125 d125_37 fE_11_305 (by decide +kernel) (by rw [hk]; rfl)
theorem d125_40 : decode cX11_forgetOldestChange 40 = .ok (.return_, 1) := by decide +kernel
theorem k125_40 {d : Nat} {l0 l1 : Option PV} {M : Mem} {Q : Option PV → Mem → Prop} : WP d 125 40 [l0, l1] ([]) M Q = Q none M := w_vret mC_125 d125_40 rfl
theorem d126_0 : decode cX11_undo 0 = .ok (.aload_n 0, 1) := by decide +kernel
theorem k126_0 {d x : Nat} {l1 : Option PV} {st : List PV} {M : Mem} {Q : Option PV → Mem → Prop} : WP d 126 0 [some (vr x), l1] (st) M Q = WP d 126 1 [some (vr x), l1] (vr x :: st) M Q := w1 mC_126 d126_0 rfl rfl
theorem d126_1 : decode cX11_undo 1 = .ok (.getfield 305, 3) := by decide +kernel
theorem k126_1 {d : Nat} {l0 l1 : Option PV} {st : List PV} {M : Mem} {Q : Option PV → Mem → Prop} {r : Nat} (hk : mK M r = 11) : WP d 126 1 [l0, l1] (vr r :: st) M Q = WP d 126 4 [l0, l1] (vi (mI M r 10) :: st) M Q := w_get mC_126 d126_1 fE_11_305 rfl (by rw [hk]; rfl)
theorem d126_4 : decode cX11_undo 4 = .ok (.ifCond .gt 6, 3) := by decide +kernel
theorem k126_4 {d : Nat} {l0 l1 : Option PV} {st : List PV} {M : Mem} {Q : Option PV → Mem → Prop} {x : Int32} : WP d 126 4 [l0, l1] (vi x :: st) M Q = (if 0 < x then WP d 126 10 [l0, l1] (st) M Q else WP d 126 7 [l0, l1] (st) M Q) := w_if_gt mC_126 d126_4 (by decide)
theorem d126_7 : decode cX11_undo 7 = .ok (.bipush (-5), 2) := by decide +kernel
theorem k126_7 {d : Nat} {l0 l1 : Option PV} {st : List PV} {M : Mem} {Q : Option PV → Mem → Prop} : WP d 126 7 [l0, l1] (st) M Q = WP d 126 9 [l0, l1] (vi (-5) :: st) M Q := w_bipush mC_126 d126_7 (by decide)
theorem d126_9 : decode cX11_undo 9 = .ok (.ireturn, 1) := by decide +kernel
theorem k126_9 {d : Nat} {l0 l1 : Option PV} {M : Mem} {Q : Option PV → Mem → Prop} {x : Int32} : WP d 126 9 [l0, l1] ([vi x]) M Q = Q (some (vi x)) M := w_iret mC_126 d126_9 rfl
theorem d126_10 : decode cX11_undo 10 = .ok (.aload_n 0, 1) := by decide +kernel
theorem k126_10 {d x : Nat} {l1 : Option PV} {st : List PV} {M : Mem} {Q : Option PV → Mem → Prop} : WP d 126 10 [some (vr x), l1] (st) M Q = WP d 126 11 [some (vr x), l1] (vr x :: st) M Q := w1 mC_126 d126_10 rfl rfl
theorem d126_11 : decode cX11_undo 11 = .ok (.dup, 1) := by decide +kernel
theorem k126_11 {d : Nat} {l0 l1 : Option PV} {st : List PV} {M : Mem} {Q : Option PV → Mem → Prop} {x : Nat} : WP d 126 11 [l0, l1] (vr x :: st) M Q = WP d 126 12 [l0, l1] (vr x :: vr x :: st) M Q := w1 mC_126 d126_11 rfl rfl
theorem k126_11i {d : Nat} {l0 l1 : Option PV} {st : List PV} {M : Mem} {Q : Option PV → Mem → Prop} {x : Int32} : WP d 126 11 [l0, l1] (vi x :: st) M Q = WP d 126 12 [l0, l1] (vi x :: vi x :: st) M Q := w1 mC_126 d126_11 rfl rfl
theorem d126_12 : decode cX11_undo 12 = .ok (.getfield 305, 3) := by decide +kernel
theorem k126_12 {d : Nat} {l0 l1 : Option PV} {st : List PV} {M : Mem} {Q : Option PV → Mem → Prop} {r : Nat} (hk : mK M r = 11) : WP d 126 12 [l0, l1] (vr r :: st) M Q = WP d 126 15 [l0, l1] (vi (mI M r 10) :: st) M Q := w_get mC_126 d126_12 fE_11_305 rfl (by rw [hk]; rfl)
theorem d126_15 : decode cX11_undo 15 = .ok (.iconst 1, 1) := by decide +kernel
theorem k126_15 {d : Nat} {l0 l1 : Option PV} {st : List PV} {M : Mem} {Q : Option PV → Mem → Prop} : WP d 126 15 [l0, l1] (st) M Q = WP d 126 16 [l0, l1] (vi 1 :: st) M Q := w_iconst mC_126 d126_15 (by decide)
theorem d126_16 : decode cX11_undo 16 = .ok (.isub, 1) := by decide +kernel
theorem k126_16 {d : Nat} {l0 l1 : Option PV} {st : List PV} {M : Mem} {Q : Option PV → Mem → Prop} {x y : Int32} : WP d 126 16 [l0, l1] (vi y :: vi x :: st) M Q = WP d 126 17 [l0, l1] (vi (x - y) :: st) M Q := w1 mC_126 d126_16 rfl rfl
theorem d126_17 : decode cX11_undo 17 = .ok (.putfield 305, 3) := by decide +kernel
theorem k126_17 {d : Nat} {l0 l1 : Option PV} {st : List PV} {M : Mem} {Q : Option PV → Mem → Prop} {r : Nat} {x : Int32} (hk : mK M r = 11) : WP d 126 17 [l0, l1] (vi x :: vr r :: st) M Q = WP d 126 20 [l0, l1] (st) (sI M r 10 x) Q := w_put mC_126 d126_17 fE_11_305 (by decide +kernel) (by rw [hk]; rfl)
theorem d126_20 : decode cX11_undo 20 = .ok (.aload_n 0, 1) := by decide +kernel
theorem k126_20 {d x : Nat} {l1 : Option PV} {st : List PV} {M : Mem} {Q : Option PV → Mem → Prop} : WP d 126 20 [some (vr x), l1] (st) M Q = WP d 126 21 [some (vr x), l1] (vr x :: st) M Q := w1 mC_126 d126_20 rfl rfl
theorem d126_21 : decode cX11_undo 21 = .ok (.getfield 38, 3) := by decide +kernel
theorem k126_21 {d : Nat} {l0 l1 : Option PV} {st : List PV} {M : Mem} {Q : Option PV → Mem → Prop} {r : Nat} (hk : mK M r = 11) : WP d 126 21 [l0, l1] (vr r :: st) M Q = WP d 126 24 [l0, l1] (vr (mR M r 8) :: st) M Q := w_getr mC_126 d126_21 fE_11_38 rfl (by rw [hk]; rfl)
theorem d126_24 : decode cX11_undo 24 = .ok (.aload_n 0, 1) := by decide +kernel
theorem k126_24 {d x : Nat} {l1 : Option PV} {st : List PV} {M : Mem} {Q : Option PV → Mem → Prop} : WP d 126 24 [some (vr x), l1] (st) M Q = WP d 126 25 [some (vr x), l1] (vr x :: st) M Q := w1 mC_126 d126_24 rfl rfl
theorem d126_25 : decode cX11_undo 25 = .ok (.getfield 305, 3) := by decide +kernel
theorem k126_25 {d : Nat} {l0 l1 : Option PV} {st : List PV} {M : Mem} {Q : Option PV → Mem → Prop} {r : Nat} (hk : mK M r = 11) : WP d 126 25 [l0, l1] (vr r :: st) M Q = WP d 126 28 [l0, l1] (vi (mI M r 10) :: st) M Q := w_get mC_126 d126_25 fE_11_305 rfl (by rw [hk]; rfl)
theorem d126_28 : decode cX11_undo 28 = .ok (.aaload, 1) := by decide +kernel
theorem k126_28 {d : Nat} {l0 l1 : Option PV} {st : List PV} {M : Mem} {Q : Option PV → Mem → Prop} {r : Nat} {j : Int32} (hk : mK M r = 15 ∨ mK M r = 16 ∨ mK M r = 17) (hj : inb j (mN M r)) (h1 : r ≠ 1) : WP d 126 28 [l0, l1] (vi j :: vr r :: st) M Q = WP d 126 29 [l0, l1] (vr (mR M r (ix j)) :: st) M Q := w_aald mC_126 d126_28 hk hj h1
theorem d126_29 : decode cX11_undo 29 = .ok (.astore_n 1, 1) := by decide +kernel
theorem k126_29 {d : Nat} {l0 l1 : Option PV} {st : List PV} {M : Mem} {Q : Option PV → Mem → Prop} {x : Nat} : WP d 126 29 [l0, l1] (vr x :: st) M Q = WP d 126 30 [l0, some (vr x)] (st) M Q := w1 mC_126 d126_29 rfl rfl
theorem d126_30 : decode cX11_undo 30 = .ok (.aload_n 0, 1) := by decide +kernel
theorem k126_30 {d x : Nat} {l1 : Option PV} {st : List PV} {M : Mem} {Q : Option PV → Mem → Prop} : WP d 126 30 [some (vr x), l1] (st) M Q = WP d 126 31 [some (vr x), l1] (vr x :: st) M Q := w1 mC_126 d126_30 rfl rfl
theorem d126_31 : decode cX11_undo 31 = .ok (.getfield 10, 3) := by decide +kernel
theorem k126_31 {d : Nat} {l0 l1 : Option PV} {st : List PV} {M : Mem} {Q : Option PV → Mem → Prop} {r : Nat} (hk : mK M r = 11) : WP d 126 31 [l0, l1] (vr r :: st) M Q = WP d 126 34 [l0, l1] (vr (mR M r 0) :: st) M Q := w_getr mC_126 d126_31 fE_11_10 rfl (by rw [hk]; rfl)
theorem d126_34 : decode cX11_undo 34 = .ok (.aload_n 1, 1) := by decide +kernel
theorem k126_34 {d x : Nat} {l0 : Option PV} {st : List PV} {M : Mem} {Q : Option PV → Mem → Prop} : WP d 126 34 [l0, some (vr x)] (st) M Q = WP d 126 35 [l0, some (vr x)] (vr x :: st) M Q := w1 mC_126 d126_34 rfl rfl
theorem d126_35 : decode cX11_undo 35 = .ok (.iconst 0, 1) := by decide +kernel
theorem k126_35 {d : Nat} {l0 l1 : Option PV} {st : List PV} {M : Mem} {Q : Option PV → Mem → Prop} : WP d 126 35 [l0, l1] (st) M Q = WP d 126 36 [l0, l1] (vi 0 :: st) M Q := w_iconst mC_126 d126_35 (by decide)
theorem d126_36 : decode cX11_undo 36 = .ok (.iaload, 1) := by decide +kernel
theorem k126_36 {d : Nat} {l0 l1 : Option PV} {st : List PV} {M : Mem} {Q : Option PV → Mem → Prop} {r : Nat} {j : Int32} (hk : mK M r = 13) (hj : inb j (mN M r)) (_h1 : r ≠ 1) : WP d 126 36 [l0, l1] (vi j :: vr r :: st) M Q = WP d 126 37 [l0, l1] (vi (mI M r (ix j)) :: st) M Q := w_iald mC_126 d126_36 hk hj
theorem d126_37 : decode cX11_undo 37 = .ok (.aload_n 1, 1) := by decide +kernel
theorem k126_37 {d x : Nat} {l0 : Option PV} {st : List PV} {M : Mem} {Q : Option PV → Mem → Prop} : WP d 126 37 [l0, some (vr x)] (st) M Q = WP d 126 38 [l0, some (vr x)] (vr x :: st) M Q := w1 mC_126 d126_37 rfl rfl
theorem d126_38 : decode cX11_undo 38 = .ok (.iconst 1, 1) := by decide +kernel
theorem k126_38 {d : Nat} {l0 l1 : Option PV} {st : List PV} {M : Mem} {Q : Option PV → Mem → Prop} : WP d 126 38 [l0, l1] (st) M Q = WP d 126 39 [l0, l1] (vi 1 :: st) M Q := w_iconst mC_126 d126_38 (by decide)
theorem d126_39 : decode cX11_undo 39 = .ok (.iaload, 1) := by decide +kernel
theorem k126_39 {d : Nat} {l0 l1 : Option PV} {st : List PV} {M : Mem} {Q : Option PV → Mem → Prop} {r : Nat} {j : Int32} (hk : mK M r = 13) (hj : inb j (mN M r)) (_h1 : r ≠ 1) : WP d 126 39 [l0, l1] (vi j :: vr r :: st) M Q = WP d 126 40 [l0, l1] (vi (mI M r (ix j)) :: st) M Q := w_iald mC_126 d126_39 hk hj
theorem d126_40 : decode cX11_undo 40 = .ok (.aload_n 1, 1) := by decide +kernel
theorem k126_40 {d x : Nat} {l0 : Option PV} {st : List PV} {M : Mem} {Q : Option PV → Mem → Prop} : WP d 126 40 [l0, some (vr x)] (st) M Q = WP d 126 41 [l0, some (vr x)] (vr x :: st) M Q := w1 mC_126 d126_40 rfl rfl
theorem d126_41 : decode cX11_undo 41 = .ok (.iconst 2, 1) := by decide +kernel
theorem k126_41 {d : Nat} {l0 l1 : Option PV} {st : List PV} {M : Mem} {Q : Option PV → Mem → Prop} : WP d 126 41 [l0, l1] (st) M Q = WP d 126 42 [l0, l1] (vi 2 :: st) M Q := w_iconst mC_126 d126_41 (by decide)
theorem d126_42 : decode cX11_undo 42 = .ok (.iaload, 1) := by decide +kernel
theorem k126_42 {d : Nat} {l0 l1 : Option PV} {st : List PV} {M : Mem} {Q : Option PV → Mem → Prop} {r : Nat} {j : Int32} (hk : mK M r = 13) (hj : inb j (mN M r)) (_h1 : r ≠ 1) : WP d 126 42 [l0, l1] (vi j :: vr r :: st) M Q = WP d 126 43 [l0, l1] (vi (mI M r (ix j)) :: st) M Q := w_iald mC_126 d126_42 hk hj
theorem d126_43 : decode cX11_undo 43 = .ok (.invokevirtual 113, 3) := by decide +kernel
theorem k126_43 {d : Nat} {l0 l1 : Option PV} {st : List PV} {M : Mem} {Q : Option PV → Mem → Prop} {a0 a1 a2 : Int32} {r : Nat} (hl : szL st ≤ 8) (hk : mK M r = 4) : WP (d + 1) 126 43 [l0, l1] (vi a2 :: vi a1 :: vi a0 :: vr r :: st) M Q = WP d 30 0 [some (vr r), some (vi a0), some (vi a1), some (vi a2)] [] M (fun v M' => WP (d + 1) 126 46 [l0, l1] (psh v st) M' Q) := w_callV mC_126 d126_43 (ci := 4) rfl rfl rfl (Nat.le_of_ble_eq_true rfl) (by decide) rfl hl (Or.inl hk)
theorem d126_46 : decode cX11_undo 46 = .ok (.aload_n 0, 1) := by decide +kernel
theorem k126_46 {d x : Nat} {l1 : Option PV} {st : List PV} {M : Mem} {Q : Option PV → Mem → Prop} : WP d 126 46 [some (vr x), l1] (st) M Q = WP d 126 47 [some (vr x), l1] (vr x :: st) M Q := w1 mC_126 d126_46 rfl rfl
theorem d126_47 : decode cX11_undo 47 = .ok (.getfield 305, 3) := by decide +kernel
theorem k126_47 {d : Nat} {l0 l1 : Option PV} {st : List PV} {M : Mem} {Q : Option PV → Mem → Prop} {r : Nat} (hk : mK M r = 11) : WP d 126 47 [l0, l1] (vr r :: st) M Q = WP d 126 50 [l0, l1] (vi (mI M r 10) :: st) M Q := w_get mC_126 d126_47 fE_11_305 rfl (by rw [hk]; rfl)
theorem d126_50 : decode cX11_undo 50 = .ok (.ireturn, 1) := by decide +kernel
theorem k126_50 {d : Nat} {l0 l1 : Option PV} {M : Mem} {Q : Option PV → Mem → Prop} {x : Int32} : WP d 126 50 [l0, l1] ([vi x]) M Q = Q (some (vi x)) M := w_iret mC_126 d126_50 rfl
theorem d132_0 : decode cX11_keep 0 = .ok (.iload_n 1, 1) := by decide +kernel
theorem k132_0 {d : Nat} {x : Int32} {l0 l2 : Option PV} {st : List PV} {M : Mem} {Q : Option PV → Mem → Prop} : WP d 132 0 [l0, some (vi x), l2] (st) M Q = WP d 132 1 [l0, some (vi x), l2] (vi x :: st) M Q := w1 mC_132 d132_0 rfl rfl
theorem d132_1 : decode cX11_keep 1 = .ok (.invokestatic 75, 3) := by decide +kernel
theorem k132_1 {d : Nat} {l0 l1 l2 : Option PV} {st : List PV} {M : Mem} {Q : Option PV → Mem → Prop} {a0 : Int32} (hl : szL st ≤ 8) : WP (d + 1) 132 1 [l0, l1, l2] (vi a0 :: st) M Q = WP d 142 0 [some (vi a0)] [] M (fun v M' => WP (d + 1) 132 4 [l0, l1, l2] (psh v st) M' Q) := w_callS mC_132 d132_1 rfl rfl (Nat.le_of_ble_eq_true rfl) (by decide) rfl hl
theorem d132_4 : decode cX11_keep 4 = .ok (.ifCond .eq 17, 3) := by decide +kernel
theorem k132_4 {d : Nat} {l0 l1 l2 : Option PV} {st : List PV} {M : Mem} {Q : Option PV → Mem → Prop} {x : Int32} : WP d 132 4 [l0, l1, l2] (vi x :: st) M Q = (if x = 0 then WP d 132 21 [l0, l1, l2] (st) M Q else WP d 132 7 [l0, l1, l2] (st) M Q) := w_if_eq mC_132 d132_4 (by decide)
theorem d132_7 : decode cX11_keep 7 = .ok (.iload_n 2, 1) := by decide +kernel
theorem k132_7 {d : Nat} {x : Int32} {l0 l1 : Option PV} {st : List PV} {M : Mem} {Q : Option PV → Mem → Prop} : WP d 132 7 [l0, l1, some (vi x)] (st) M Q = WP d 132 8 [l0, l1, some (vi x)] (vi x :: st) M Q := w1 mC_132 d132_7 rfl rfl
theorem d132_8 : decode cX11_keep 8 = .ok (.iconst (-1), 1) := by decide +kernel
theorem k132_8 {d : Nat} {l0 l1 l2 : Option PV} {st : List PV} {M : Mem} {Q : Option PV → Mem → Prop} : WP d 132 8 [l0, l1, l2] (st) M Q = WP d 132 9 [l0, l1, l2] (vi (-1) :: st) M Q := w_iconst mC_132 d132_8 (by decide)
theorem d132_9 : decode cX11_keep 9 = .ok (.aload_n 0, 1) := by decide +kernel
theorem k132_9 {d x : Nat} {l1 l2 : Option PV} {st : List PV} {M : Mem} {Q : Option PV → Mem → Prop} : WP d 132 9 [some (vr x), l1, l2] (st) M Q = WP d 132 10 [some (vr x), l1, l2] (vr x :: st) M Q := w1 mC_132 d132_9 rfl rfl
theorem d132_10 : decode cX11_keep 10 = .ok (.getfield 320, 3) := by decide +kernel
theorem k132_10 {d : Nat} {l0 l1 l2 : Option PV} {st : List PV} {M : Mem} {Q : Option PV → Mem → Prop} {r : Nat} (hk : mK M r = 11) : WP d 132 10 [l0, l1, l2] (vr r :: st) M Q = WP d 132 13 [l0, l1, l2] (vi (mI M r 14) :: st) M Q := w_get mC_132 d132_10 fE_11_320 rfl (by rw [hk]; rfl)
theorem d132_13 : decode cX11_keep 13 = .ok (.iconst 1, 1) := by decide +kernel
theorem k132_13 {d : Nat} {l0 l1 l2 : Option PV} {st : List PV} {M : Mem} {Q : Option PV → Mem → Prop} : WP d 132 13 [l0, l1, l2] (st) M Q = WP d 132 14 [l0, l1, l2] (vi 1 :: st) M Q := w_iconst mC_132 d132_13 (by decide)
theorem d132_14 : decode cX11_keep 14 = .ok (.isub, 1) := by decide +kernel
theorem k132_14 {d : Nat} {l0 l1 l2 : Option PV} {st : List PV} {M : Mem} {Q : Option PV → Mem → Prop} {x y : Int32} : WP d 132 14 [l0, l1, l2] (vi y :: vi x :: st) M Q = WP d 132 15 [l0, l1, l2] (vi (x - y) :: st) M Q := w1 mC_132 d132_14 rfl rfl
theorem d132_15 : decode cX11_keep 15 = .ok (.invokestatic 79, 3) := by decide +kernel
theorem k132_15 {d : Nat} {l0 l1 l2 : Option PV} {st : List PV} {M : Mem} {Q : Option PV → Mem → Prop} {a0 a1 a2 : Int32} (hl : szL st ≤ 8) : WP (d + 1) 132 15 [l0, l1, l2] (vi a2 :: vi a1 :: vi a0 :: st) M Q = WP d 141 0 [some (vi a0), some (vi a1), some (vi a2)] [] M (fun v M' => WP (d + 1) 132 18 [l0, l1, l2] (psh v st) M' Q) := w_callS mC_132 d132_15 rfl rfl (Nat.le_of_ble_eq_true rfl) (by decide) rfl hl
theorem d132_18 : decode cX11_keep 18 = .ok (.ifCond .ne 5, 3) := by decide +kernel
theorem k132_18 {d : Nat} {l0 l1 l2 : Option PV} {st : List PV} {M : Mem} {Q : Option PV → Mem → Prop} {x : Int32} : WP d 132 18 [l0, l1, l2] (vi x :: st) M Q = (if x = 0 then WP d 132 21 [l0, l1, l2] (st) M Q else WP d 132 23 [l0, l1, l2] (st) M Q) := w_if_ne mC_132 d132_18 (by decide)
theorem d132_21 : decode cX11_keep 21 = .ok (.iconst (-1), 1) := by decide +kernel
theorem k132_21 {d : Nat} {l0 l1 l2 : Option PV} {st : List PV} {M : Mem} {Q : Option PV → Mem → Prop} : WP d 132 21 [l0, l1, l2] (st) M Q = WP d 132 22 [l0, l1, l2] (vi (-1) :: st) M Q := w_iconst mC_132 d132_21 (by decide)
theorem d132_22 : decode cX11_keep 22 = .ok (.ireturn, 1) := by decide +kernel
theorem k132_22 {d : Nat} {l0 l1 l2 : Option PV} {M : Mem} {Q : Option PV → Mem → Prop} {x : Int32} : WP d 132 22 [l0, l1, l2] ([vi x]) M Q = Q (some (vi x)) M := w_iret mC_132 d132_22 rfl
theorem d132_23 : decode cX11_keep 23 = .ok (.aload_n 0, 1) := by decide +kernel
theorem k132_23 {d x : Nat} {l1 l2 : Option PV} {st : List PV} {M : Mem} {Q : Option PV → Mem → Prop} : WP d 132 23 [some (vr x), l1, l2] (st) M Q = WP d 132 24 [some (vr x), l1, l2] (vr x :: st) M Q := w1 mC_132 d132_23 rfl rfl
theorem d132_24 : decode cX11_keep 24 = .ok (.getfield 58, 3) := by decide +kernel
theorem k132_24 {d : Nat} {l0 l1 l2 : Option PV} {st : List PV} {M : Mem} {Q : Option PV → Mem → Prop} {r : Nat} (hk : mK M r = 11) : WP d 132 24 [l0, l1, l2] (vr r :: st) M Q = WP d 132 27 [l0, l1, l2] (vr (mR M r 16) :: st) M Q := w_getr mC_132 d132_24 fE_11_58 rfl (by rw [hk]; rfl)
theorem d132_27 : decode cX11_keep 27 = .ok (.iload_n 1, 1) := by decide +kernel
theorem k132_27 {d : Nat} {x : Int32} {l0 l2 : Option PV} {st : List PV} {M : Mem} {Q : Option PV → Mem → Prop} : WP d 132 27 [l0, some (vi x), l2] (st) M Q = WP d 132 28 [l0, some (vi x), l2] (vi x :: st) M Q := w1 mC_132 d132_27 rfl rfl
theorem d132_28 : decode cX11_keep 28 = .ok (.aaload, 1) := by decide +kernel
theorem k132_28 {d : Nat} {l0 l1 l2 : Option PV} {st : List PV} {M : Mem} {Q : Option PV → Mem → Prop} {r : Nat} {j : Int32} (hk : mK M r = 15 ∨ mK M r = 16 ∨ mK M r = 17) (hj : inb j (mN M r)) (h1 : r ≠ 1) : WP d 132 28 [l0, l1, l2] (vi j :: vr r :: st) M Q = WP d 132 29 [l0, l1, l2] (vr (mR M r (ix j)) :: st) M Q := w_aald mC_132 d132_28 hk hj h1
theorem d132_29 : decode cX11_keep 29 = .ok (.iload_n 2, 1) := by decide +kernel
theorem k132_29 {d : Nat} {x : Int32} {l0 l1 : Option PV} {st : List PV} {M : Mem} {Q : Option PV → Mem → Prop} : WP d 132 29 [l0, l1, some (vi x)] (st) M Q = WP d 132 30 [l0, l1, some (vi x)] (vi x :: st) M Q := w1 mC_132 d132_29 rfl rfl
theorem d132_30 : decode cX11_keep 30 = .ok (.iconst (-1), 1) := by decide +kernel
theorem k132_30 {d : Nat} {l0 l1 l2 : Option PV} {st : List PV} {M : Mem} {Q : Option PV → Mem → Prop} : WP d 132 30 [l0, l1, l2] (st) M Q = WP d 132 31 [l0, l1, l2] (vi (-1) :: st) M Q := w_iconst mC_132 d132_30 (by decide)
theorem d132_31 : decode cX11_keep 31 = .ok (.if_icmp .ne 7, 3) := by decide +kernel
theorem k132_31 {d : Nat} {l0 l1 l2 : Option PV} {st : List PV} {M : Mem} {Q : Option PV → Mem → Prop} {x y : Int32} : WP d 132 31 [l0, l1, l2] (vi y :: vi x :: st) M Q = (if x = y then WP d 132 34 [l0, l1, l2] (st) M Q else WP d 132 38 [l0, l1, l2] (st) M Q) := w_ic_ne mC_132 d132_31 (by decide)
theorem d132_34 : decode cX11_keep 34 = .ok (.aconst_null, 1) := by decide +kernel
theorem k132_34 {d : Nat} {l0 l1 l2 : Option PV} {st : List PV} {M : Mem} {Q : Option PV → Mem → Prop} : WP d 132 34 [l0, l1, l2] (st) M Q = WP d 132 35 [l0, l1, l2] (vr 0 :: st) M Q := w1 mC_132 d132_34 rfl rfl
theorem d132_35 : decode cX11_keep 35 = .ok (.goto 9, 3) := by decide +kernel
theorem k132_35 {d : Nat} {l0 l1 l2 : Option PV} {st : List PV} {M : Mem} {Q : Option PV → Mem → Prop} : WP d 132 35 [l0, l1, l2] (st) M Q = WP d 132 44 [l0, l1, l2] (st) M Q := w_goto mC_132 d132_35 (by decide)
theorem d132_38 : decode cX11_keep 38 = .ok (.aload_n 0, 1) := by decide +kernel
theorem k132_38 {d x : Nat} {l1 l2 : Option PV} {st : List PV} {M : Mem} {Q : Option PV → Mem → Prop} : WP d 132 38 [some (vr x), l1, l2] (st) M Q = WP d 132 39 [some (vr x), l1, l2] (vr x :: st) M Q := w1 mC_132 d132_38 rfl rfl
theorem d132_39 : decode cX11_keep 39 = .ok (.getfield 49, 3) := by decide +kernel
theorem k132_39 {d : Nat} {l0 l1 l2 : Option PV} {st : List PV} {M : Mem} {Q : Option PV → Mem → Prop} {r : Nat} (hk : mK M r = 11) : WP d 132 39 [l0, l1, l2] (vr r :: st) M Q = WP d 132 42 [l0, l1, l2] (vr (mR M r 13) :: st) M Q := w_getr mC_132 d132_39 fE_11_49 rfl (by rw [hk]; rfl)
theorem d132_42 : decode cX11_keep 42 = .ok (.iload_n 2, 1) := by decide +kernel
theorem k132_42 {d : Nat} {x : Int32} {l0 l1 : Option PV} {st : List PV} {M : Mem} {Q : Option PV → Mem → Prop} : WP d 132 42 [l0, l1, some (vi x)] (st) M Q = WP d 132 43 [l0, l1, some (vi x)] (vi x :: st) M Q := w1 mC_132 d132_42 rfl rfl
theorem d132_43 : decode cX11_keep 43 = .ok (.aaload, 1) := by decide +kernel
theorem k132_43 {d : Nat} {l0 l1 l2 : Option PV} {st : List PV} {M : Mem} {Q : Option PV → Mem → Prop} {r : Nat} {j : Int32} (hk : mK M r = 15 ∨ mK M r = 16 ∨ mK M r = 17) (hj : inb j (mN M r)) (h1 : r ≠ 1) : WP d 132 43 [l0, l1, l2] (vi j :: vr r :: st) M Q = WP d 132 44 [l0, l1, l2] (vr (mR M r (ix j)) :: st) M Q := w_aald mC_132 d132_43 hk hj h1
theorem d132_44 : decode cX11_keep 44 = .ok (.invokevirtual 363, 3) := by decide +kernel
theorem k132_44 {d : Nat} {l0 l1 l2 : Option PV} {st : List PV} {M : Mem} {Q : Option PV → Mem → Prop} {a0 : Nat} {r : Nat} (hl : szL st ≤ 8) (hk : mK M r = 9) : WP (d + 1) 132 44 [l0, l1, l2] (vr a0 :: vr r :: st) M Q = WP d 62 0 [some (vr r), some (vr a0)] [] M (fun v M' => WP (d + 1) 132 47 [l0, l1, l2] (psh v st) M' Q) := w_callV mC_132 d132_44 (ci := 9) rfl rfl rfl (Nat.le_of_ble_eq_true rfl) (by decide) rfl hl (Or.inl hk)
theorem d132_47 : decode cX11_keep 47 = .ok (.iconst 1, 1) := by decide +kernel
theorem k132_47 {d : Nat} {l0 l1 l2 : Option PV} {st : List PV} {M : Mem} {Q : Option PV → Mem → Prop} : WP d 132 47 [l0, l1, l2] (st) M Q = WP d 132 48 [l0, l1, l2] (vi 1 :: st) M Q := w_iconst mC_132 d132_47 (by decide)
theorem d132_48 : decode cX11_keep 48 = .ok (.ireturn, 1) := by decide +kernel
theorem k132_48 {d : Nat} {l0 l1 l2 : Option PV} {M : Mem} {Q : Option PV → Mem → Prop} {x : Int32} : WP d 132 48 [l0, l1, l2] ([vi x]) M Q = Q (some (vi x)) M := w_iret mC_132 d132_48 rfl
theorem d133_0 : decode cX11_row 0 = .ok (.iload_n 1, 1) := by decide +kernel
theorem k133_0 {d : Nat} {x : Int32} {l0 l2 l3 : Option PV} {st : List PV} {M : Mem} {Q : Option PV → Mem → Prop} : WP d 133 0 [l0, some (vi x), l2, l3] (st) M Q = WP d 133 1 [l0, some (vi x), l2, l3] (vi x :: st) M Q := w1 mC_133 d133_0 rfl rfl
theorem d133_1 : decode cX11_row 1 = .ok (.invokestatic 75, 3) := by decide +kernel
theorem k133_1 {d : Nat} {l0 l1 l2 l3 : Option PV} {st : List PV} {M : Mem} {Q : Option PV → Mem → Prop} {a0 : Int32} (hl : szL st ≤ 8) : WP (d + 1) 133 1 [l0, l1, l2, l3] (vi a0 :: st) M Q = WP d 142 0 [some (vi a0)] [] M (fun v M' => WP (d + 1) 133 4 [l0, l1, l2, l3] (psh v st) M' Q) := w_callS mC_133 d133_1 rfl rfl (Nat.le_of_ble_eq_true rfl) (by decide) rfl hl
theorem d133_4 : decode cX11_row 4 = .ok (.ifCond .eq 18, 3) := by decide +kernel
theorem k133_4 {d : Nat} {l0 l1 l2 l3 : Option PV} {st : List PV} {M : Mem} {Q : Option PV → Mem → Prop} {x : Int32} : WP d 133 4 [l0, l1, l2, l3] (vi x :: st) M Q = (if x = 0 then WP d 133 22 [l0, l1, l2, l3] (st) M Q else WP d 133 7 [l0, l1, l2, l3] (st) M Q) := w_if_eq mC_133 d133_4 (by decide)
theorem d133_7 : decode cX11_row 7 = .ok (.iload_n 2, 1) := by decide +kernel
theorem k133_7 {d : Nat} {x : Int32} {l0 l1 l3 : Option PV} {st : List PV} {M : Mem} {Q : Option PV → Mem → Prop} : WP d 133 7 [l0, l1, some (vi x), l3] (st) M Q = WP d 133 8 [l0, l1, some (vi x), l3] (vi x :: st) M Q := w1 mC_133 d133_7 rfl rfl
theorem d133_8 : decode cX11_row 8 = .ok (.iconst 0, 1) := by decide +kernel
theorem k133_8 {d : Nat} {l0 l1 l2 l3 : Option PV} {st : List PV} {M : Mem} {Q : Option PV → Mem → Prop} : WP d 133 8 [l0, l1, l2, l3] (st) M Q = WP d 133 9 [l0, l1, l2, l3] (vi 0 :: st) M Q := w_iconst mC_133 d133_8 (by decide)
theorem d133_9 : decode cX11_row 9 = .ok (.iconst 4, 1) := by decide +kernel
theorem k133_9 {d : Nat} {l0 l1 l2 l3 : Option PV} {st : List PV} {M : Mem} {Q : Option PV → Mem → Prop} : WP d 133 9 [l0, l1, l2, l3] (st) M Q = WP d 133 10 [l0, l1, l2, l3] (vi 4 :: st) M Q := w_iconst mC_133 d133_9 (by decide)
theorem d133_10 : decode cX11_row 10 = .ok (.invokestatic 79, 3) := by decide +kernel
theorem k133_10 {d : Nat} {l0 l1 l2 l3 : Option PV} {st : List PV} {M : Mem} {Q : Option PV → Mem → Prop} {a0 a1 a2 : Int32} (hl : szL st ≤ 8) : WP (d + 1) 133 10 [l0, l1, l2, l3] (vi a2 :: vi a1 :: vi a0 :: st) M Q = WP d 141 0 [some (vi a0), some (vi a1), some (vi a2)] [] M (fun v M' => WP (d + 1) 133 13 [l0, l1, l2, l3] (psh v st) M' Q) := w_callS mC_133 d133_10 rfl rfl (Nat.le_of_ble_eq_true rfl) (by decide) rfl hl
theorem d133_13 : decode cX11_row 13 = .ok (.ifCond .eq 9, 3) := by decide +kernel
theorem k133_13 {d : Nat} {l0 l1 l2 l3 : Option PV} {st : List PV} {M : Mem} {Q : Option PV → Mem → Prop} {x : Int32} : WP d 133 13 [l0, l1, l2, l3] (vi x :: st) M Q = (if x = 0 then WP d 133 22 [l0, l1, l2, l3] (st) M Q else WP d 133 16 [l0, l1, l2, l3] (st) M Q) := w_if_eq mC_133 d133_13 (by decide)
theorem d133_16 : decode cX11_row 16 = .ok (.iload_n 3, 1) := by decide +kernel
theorem k133_16 {d : Nat} {x : Int32} {l0 l1 l2 : Option PV} {st : List PV} {M : Mem} {Q : Option PV → Mem → Prop} : WP d 133 16 [l0, l1, l2, some (vi x)] (st) M Q = WP d 133 17 [l0, l1, l2, some (vi x)] (vi x :: st) M Q := w1 mC_133 d133_16 rfl rfl
theorem d133_17 : decode cX11_row 17 = .ok (.bipush 60, 2) := by decide +kernel
theorem k133_17 {d : Nat} {l0 l1 l2 l3 : Option PV} {st : List PV} {M : Mem} {Q : Option PV → Mem → Prop} : WP d 133 17 [l0, l1, l2, l3] (st) M Q = WP d 133 19 [l0, l1, l2, l3] (vi 60 :: st) M Q := w_bipush mC_133 d133_17 (by decide)
theorem d133_19 : decode cX11_row 19 = .ok (.if_icmp .le 5, 3) := by decide +kernel
theorem k133_19 {d : Nat} {l0 l1 l2 l3 : Option PV} {st : List PV} {M : Mem} {Q : Option PV → Mem → Prop} {x y : Int32} : WP d 133 19 [l0, l1, l2, l3] (vi y :: vi x :: st) M Q = (if x ≤ y then WP d 133 24 [l0, l1, l2, l3] (st) M Q else WP d 133 22 [l0, l1, l2, l3] (st) M Q) := w_ic_le mC_133 d133_19 (by decide)
theorem d133_22 : decode cX11_row 22 = .ok (.iconst (-1), 1) := by decide +kernel
theorem k133_22 {d : Nat} {l0 l1 l2 l3 : Option PV} {st : List PV} {M : Mem} {Q : Option PV → Mem → Prop} : WP d 133 22 [l0, l1, l2, l3] (st) M Q = WP d 133 23 [l0, l1, l2, l3] (vi (-1) :: st) M Q := w_iconst mC_133 d133_22 (by decide)
theorem d133_23 : decode cX11_row 23 = .ok (.ireturn, 1) := by decide +kernel
theorem k133_23 {d : Nat} {l0 l1 l2 l3 : Option PV} {M : Mem} {Q : Option PV → Mem → Prop} {x : Int32} : WP d 133 23 [l0, l1, l2, l3] ([vi x]) M Q = Q (some (vi x)) M := w_iret mC_133 d133_23 rfl
theorem d133_24 : decode cX11_row 24 = .ok (.iload_n 3, 1) := by decide +kernel
theorem k133_24 {d : Nat} {x : Int32} {l0 l1 l2 : Option PV} {st : List PV} {M : Mem} {Q : Option PV → Mem → Prop} : WP d 133 24 [l0, l1, l2, some (vi x)] (st) M Q = WP d 133 25 [l0, l1, l2, some (vi x)] (vi x :: st) M Q := w1 mC_133 d133_24 rfl rfl
theorem d133_25 : decode cX11_row 25 = .ok (.ifCond .ge 6, 3) := by decide +kernel
theorem k133_25 {d : Nat} {l0 l1 l2 l3 : Option PV} {st : List PV} {M : Mem} {Q : Option PV → Mem → Prop} {x : Int32} : WP d 133 25 [l0, l1, l2, l3] (vi x :: st) M Q = (if 0 ≤ x then WP d 133 31 [l0, l1, l2, l3] (st) M Q else WP d 133 28 [l0, l1, l2, l3] (st) M Q) := w_if_ge mC_133 d133_25 (by decide)
theorem d133_28 : decode cX11_row 28 = .ok (.bipush (-14), 2) := by decide +kernel
theorem k133_28 {d : Nat} {l0 l1 l2 l3 : Option PV} {st : List PV} {M : Mem} {Q : Option PV → Mem → Prop} : WP d 133 28 [l0, l1, l2, l3] (st) M Q = WP d 133 30 [l0, l1, l2, l3] (vi (-14) :: st) M Q := w_bipush mC_133 d133_28 (by decide)
theorem d133_30 : decode cX11_row 30 = .ok (.ireturn, 1) := by decide +kernel
theorem k133_30 {d : Nat} {l0 l1 l2 l3 : Option PV} {M : Mem} {Q : Option PV → Mem → Prop} {x : Int32} : WP d 133 30 [l0, l1, l2, l3] ([vi x]) M Q = Q (some (vi x)) M := w_iret mC_133 d133_30 rfl
theorem d133_31 : decode cX11_row 31 = .ok (.aload_n 0, 1) := by decide +kernel
theorem k133_31 {d x : Nat} {l1 l2 l3 : Option PV} {st : List PV} {M : Mem} {Q : Option PV → Mem → Prop} : WP d 133 31 [some (vr x), l1, l2, l3] (st) M Q = WP d 133 32 [some (vr x), l1, l2, l3] (vr x :: st) M Q := w1 mC_133 d133_31 rfl rfl
theorem d133_32 : decode cX11_row 32 = .ok (.getfield 58, 3) := by decide +kernel
theorem k133_32 {d : Nat} {l0 l1 l2 l3 : Option PV} {st : List PV} {M : Mem} {Q : Option PV → Mem → Prop} {r : Nat} (hk : mK M r = 11) : WP d 133 32 [l0, l1, l2, l3] (vr r :: st) M Q = WP d 133 35 [l0, l1, l2, l3] (vr (mR M r 16) :: st) M Q := w_getr mC_133 d133_32 fE_11_58 rfl (by rw [hk]; rfl)
theorem d133_35 : decode cX11_row 35 = .ok (.iload_n 1, 1) := by decide +kernel
theorem k133_35 {d : Nat} {x : Int32} {l0 l2 l3 : Option PV} {st : List PV} {M : Mem} {Q : Option PV → Mem → Prop} : WP d 133 35 [l0, some (vi x), l2, l3] (st) M Q = WP d 133 36 [l0, some (vi x), l2, l3] (vi x :: st) M Q := w1 mC_133 d133_35 rfl rfl
theorem d133_36 : decode cX11_row 36 = .ok (.aaload, 1) := by decide +kernel
theorem k133_36 {d : Nat} {l0 l1 l2 l3 : Option PV} {st : List PV} {M : Mem} {Q : Option PV → Mem → Prop} {r : Nat} {j : Int32} (hk : mK M r = 15 ∨ mK M r = 16 ∨ mK M r = 17) (hj : inb j (mN M r)) (h1 : r ≠ 1) : WP d 133 36 [l0, l1, l2, l3] (vi j :: vr r :: st) M Q = WP d 133 37 [l0, l1, l2, l3] (vr (mR M r (ix j)) :: st) M Q := w_aald mC_133 d133_36 hk hj h1
theorem d133_37 : decode cX11_row 37 = .ok (.iload_n 2, 1) := by decide +kernel
theorem k133_37 {d : Nat} {x : Int32} {l0 l1 l3 : Option PV} {st : List PV} {M : Mem} {Q : Option PV → Mem → Prop} : WP d 133 37 [l0, l1, some (vi x), l3] (st) M Q = WP d 133 38 [l0, l1, some (vi x), l3] (vi x :: st) M Q := w1 mC_133 d133_37 rfl rfl
theorem d133_38 : decode cX11_row 38 = .ok (.iload_n 3, 1) := by decide +kernel
theorem k133_38 {d : Nat} {x : Int32} {l0 l1 l2 : Option PV} {st : List PV} {M : Mem} {Q : Option PV → Mem → Prop} : WP d 133 38 [l0, l1, l2, some (vi x)] (st) M Q = WP d 133 39 [l0, l1, l2, some (vi x)] (vi x :: st) M Q := w1 mC_133 d133_38 rfl rfl
theorem d133_39 : decode cX11_row 39 = .ok (.invokevirtual 367, 3) := by decide +kernel
theorem k133_39 {d : Nat} {l0 l1 l2 l3 : Option PV} {st : List PV} {M : Mem} {Q : Option PV → Mem → Prop} {a0 a1 : Int32} {r : Nat} (hl : szL st ≤ 8) (hk : mK M r = 9) : WP (d + 1) 133 39 [l0, l1, l2, l3] (vi a1 :: vi a0 :: vr r :: st) M Q = WP d 63 0 [some (vr r), some (vi a0), some (vi a1)] [] M (fun v M' => WP (d + 1) 133 42 [l0, l1, l2, l3] (psh v st) M' Q) := w_callV mC_133 d133_39 (ci := 9) rfl rfl rfl (Nat.le_of_ble_eq_true rfl) (by decide) rfl hl (Or.inl hk)
theorem d133_42 : decode cX11_row 42 = .ok (.iconst 1, 1) := by decide +kernel
theorem k133_42 {d : Nat} {l0 l1 l2 l3 : Option PV} {st : List PV} {M : Mem} {Q : Option PV → Mem → Prop} : WP d 133 42 [l0, l1, l2, l3] (st) M Q = WP d 133 43 [l0, l1, l2, l3] (vi 1 :: st) M Q := w_iconst mC_133 d133_42 (by decide)
theorem d133_43 : decode cX11_row 43 = .ok (.ireturn, 1) := by decide +kernel
theorem k133_43 {d : Nat} {l0 l1 l2 l3 : Option PV} {M : Mem} {Q : Option PV → Mem → Prop} {x : Int32} : WP d 133 43 [l0, l1, l2, l3] ([vi x]) M Q = Q (some (vi x)) M := w_iret mC_133 d133_43 rfl
theorem d134_0 : decode cX11_put 0 = .ok (.aload_n 0, 1) := by decide +kernel
theorem k134_0 {d x : Nat} {l1 l2 l3 l4 l5 : Option PV} {st : List PV} {M : Mem} {Q : Option PV → Mem → Prop} : WP d 134 0 [some (vr x), l1, l2, l3, l4, l5] (st) M Q = WP d 134 1 [some (vr x), l1, l2, l3, l4, l5] (vr x :: st) M Q := w1 mC_134 d134_0 rfl rfl
theorem d134_1 : decode cX11_put 1 = .ok (.iload_n 1, 1) := by decide +kernel
theorem k134_1 {d : Nat} {x : Int32} {l0 l2 l3 l4 l5 : Option PV} {st : List PV} {M : Mem} {Q : Option PV → Mem → Prop} : WP d 134 1 [l0, some (vi x), l2, l3, l4, l5] (st) M Q = WP d 134 2 [l0, some (vi x), l2, l3, l4, l5] (vi x :: st) M Q := w1 mC_134 d134_1 rfl rfl
theorem d134_2 : decode cX11_put 2 = .ok (.iload_n 2, 1) := by decide +kernel
theorem k134_2 {d : Nat} {x : Int32} {l0 l1 l3 l4 l5 : Option PV} {st : List PV} {M : Mem} {Q : Option PV → Mem → Prop} : WP d 134 2 [l0, l1, some (vi x), l3, l4, l5] (st) M Q = WP d 134 3 [l0, l1, some (vi x), l3, l4, l5] (vi x :: st) M Q := w1 mC_134 d134_2 rfl rfl
theorem d134_3 : decode cX11_put 3 = .ok (.invokevirtual 370, 3) := by decide +kernel
theorem k134_3 {d : Nat} {l0 l1 l2 l3 l4 l5 : Option PV} {st : List PV} {M : Mem} {Q : Option PV → Mem → Prop} {a0 a1 : Int32} {r : Nat} (hl : szL st ≤ 8) (hk : mK M r = 11) : WP (d + 1) 134 3 [l0, l1, l2, l3, l4, l5] (vi a1 :: vi a0 :: vr r :: st) M Q = WP d 136 0 [some (vr r), some (vi a0), some (vi a1)] [] M (fun v M' => WP (d + 1) 134 6 [l0, l1, l2, l3, l4, l5] (psh v st) M' Q) := w_callV mC_134 d134_3 (ci := 11) rfl rfl rfl (Nat.le_of_ble_eq_true rfl) (by decide) rfl hl (Or.inl hk)
theorem d134_6 : decode cX11_put 6 = .ok (.istore 5, 2) := by decide +kernel
theorem k134_6 {d : Nat} {l0 l1 l2 l3 l4 l5 : Option PV} {st : List PV} {M : Mem} {Q : Option PV → Mem → Prop} {x : Int32} : WP d 134 6 [l0, l1, l2, l3, l4, l5] (vi x :: st) M Q = WP d 134 8 [l0, l1, l2, l3, l4, some (vi x)] (st) M Q := w1 mC_134 d134_6 rfl rfl
theorem d134_8 : decode cX11_put 8 = .ok (.iload 5, 2) := by decide +kernel
theorem k134_8 {d : Nat} {x : Int32} {l0 l1 l2 l3 l4 : Option PV} {st : List PV} {M : Mem} {Q : Option PV → Mem → Prop} : WP d 134 8 [l0, l1, l2, l3, l4, some (vi x)] (st) M Q = WP d 134 10 [l0, l1, l2, l3, l4, some (vi x)] (vi x :: st) M Q := w1 mC_134 d134_8 rfl rfl
theorem d134_10 : decode cX11_put 10 = .ok (.ifCond .eq 6, 3) := by decide +kernel
theorem k134_10 {d : Nat} {l0 l1 l2 l3 l4 l5 : Option PV} {st : List PV} {M : Mem} {Q : Option PV → Mem → Prop} {x : Int32} : WP d 134 10 [l0, l1, l2, l3, l4, l5] (vi x :: st) M Q = (if x = 0 then WP d 134 16 [l0, l1, l2, l3, l4, l5] (st) M Q else WP d 134 13 [l0, l1, l2, l3, l4, l5] (st) M Q) := w_if_eq mC_134 d134_10 (by decide)
theorem d134_13 : decode cX11_put 13 = .ok (.iload 5, 2) := by decide +kernel
theorem k134_13 {d : Nat} {x : Int32} {l0 l1 l2 l3 l4 : Option PV} {st : List PV} {M : Mem} {Q : Option PV → Mem → Prop} : WP d 134 13 [l0, l1, l2, l3, l4, some (vi x)] (st) M Q = WP d 134 15 [l0, l1, l2, l3, l4, some (vi x)] (vi x :: st) M Q := w1 mC_134 d134_13 rfl rfl
theorem d134_15 : decode cX11_put 15 = .ok (.ireturn, 1) := by decide +kernel
theorem k134_15 {d : Nat} {l0 l1 l2 l3 l4 l5 : Option PV} {M : Mem} {Q : Option PV → Mem → Prop} {x : Int32} : WP d 134 15 [l0, l1, l2, l3, l4, l5] ([vi x]) M Q = Q (some (vi x)) M := w_iret mC_134 d134_15 rfl
theorem d134_16 : decode cX11_put 16 = .ok (.aload_n 0, 1) := by decide +kernel
theorem k134_16 {d x : Nat} {l1 l2 l3 l4 l5 : Option PV} {st : List PV} {M : Mem} {Q : Option PV → Mem → Prop} : WP d 134 16 [some (vr x), l1, l2, l3, l4, l5] (st) M Q = WP d 134 17 [some (vr x), l1, l2, l3, l4, l5] (vr x :: st) M Q := w1 mC_134 d134_16 rfl rfl
theorem d134_17 : decode cX11_put 17 = .ok (.getfield 58, 3) := by decide +kernel
theorem k134_17 {d : Nat} {l0 l1 l2 l3 l4 l5 : Option PV} {st : List PV} {M : Mem} {Q : Option PV → Mem → Prop} {r : Nat} (hk : mK M r = 11) : WP d 134 17 [l0, l1, l2, l3, l4, l5] (vr r :: st) M Q = WP d 134 20 [l0, l1, l2, l3, l4, l5] (vr (mR M r 16) :: st) M Q := w_getr mC_134 d134_17 fE_11_58 rfl (by rw [hk]; rfl)
theorem d134_20 : decode cX11_put 20 = .ok (.iload_n 1, 1) := by decide +kernel
theorem k134_20 {d : Nat} {x : Int32} {l0 l2 l3 l4 l5 : Option PV} {st : List PV} {M : Mem} {Q : Option PV → Mem → Prop} : WP d 134 20 [l0, some (vi x), l2, l3, l4, l5] (st) M Q = WP d 134 21 [l0, some (vi x), l2, l3, l4, l5] (vi x :: st) M Q := w1 mC_134 d134_20 rfl rfl
theorem d134_21 : decode cX11_put 21 = .ok (.aaload, 1) := by decide +kernel
theorem k134_21 {d : Nat} {l0 l1 l2 l3 l4 l5 : Option PV} {st : List PV} {M : Mem} {Q : Option PV → Mem → Prop} {r : Nat} {j : Int32} (hk : mK M r = 15 ∨ mK M r = 16 ∨ mK M r = 17) (hj : inb j (mN M r)) (h1 : r ≠ 1) : WP d 134 21 [l0, l1, l2, l3, l4, l5] (vi j :: vr r :: st) M Q = WP d 134 22 [l0, l1, l2, l3, l4, l5] (vr (mR M r (ix j)) :: st) M Q := w_aald mC_134 d134_21 hk hj h1
theorem d134_22 : decode cX11_put 22 = .ok (.iload_n 2, 1) := by decide +kernel
theorem k134_22 {d : Nat} {x : Int32} {l0 l1 l3 l4 l5 : Option PV} {st : List PV} {M : Mem} {Q : Option PV → Mem → Prop} : WP d 134 22 [l0, l1, some (vi x), l3, l4, l5] (st) M Q = WP d 134 23 [l0, l1, some (vi x), l3, l4, l5] (vi x :: st) M Q := w1 mC_134 d134_22 rfl rfl
theorem d134_23 : decode cX11_put 23 = .ok (.lload_n 3, 1) := by decide +kernel
theorem k134_23 {d : Nat} {x : Int64} {l0 l1 l2 l5 : Option PV} {st : List PV} {M : Mem} {Q : Option PV → Mem → Prop} : WP d 134 23 [l0, l1, l2, some (vl x), none, l5] (st) M Q = WP d 134 24 [l0, l1, l2, some (vl x), none, l5] (vl x :: st) M Q := w1 mC_134 d134_23 rfl rfl
theorem d134_24 : decode cX11_put 24 = .ok (.invokevirtual 373, 3) := by decide +kernel
theorem k134_24 {d : Nat} {l0 l1 l2 l3 l4 l5 : Option PV} {st : List PV} {M : Mem} {Q : Option PV → Mem → Prop} {a0 : Int32} {a1 : Int64} {r : Nat} (hl : szL st ≤ 8) (hk : mK M r = 9) : WP (d + 1) 134 24 [l0, l1, l2, l3, l4, l5] (vl a1 :: vi a0 :: vr r :: st) M Q = WP d 66 0 [some (vr r), some (vi a0), some (vl a1), none] [] M (fun v M' => WP (d + 1) 134 27 [l0, l1, l2, l3, l4, l5] (psh v st) M' Q) := w_callV mC_134 d134_24 (ci := 9) rfl rfl rfl (Nat.le_of_ble_eq_true rfl) (by decide) rfl hl (Or.inl hk)
theorem d134_27 : decode cX11_put 27 = .ok (.iconst 1, 1) := by decide +kernel
theorem k134_27 {d : Nat} {l0 l1 l2 l3 l4 l5 : Option PV} {st : List PV} {M : Mem} {Q : Option PV → Mem → Prop} : WP d 134 27 [l0, l1, l2, l3, l4, l5] (st) M Q = WP d 134 28 [l0, l1, l2, l3, l4, l5] (vi 1 :: st) M Q := w_iconst mC_134 d134_27 (by decide)
theorem d134_28 : decode cX11_put 28 = .ok (.ireturn, 1) := by decide +kernel
theorem k134_28 {d : Nat} {l0 l1 l2 l3 l4 l5 : Option PV} {M : Mem} {Q : Option PV → Mem → Prop} {x : Int32} : WP d 134 28 [l0, l1, l2, l3, l4, l5] ([vi x]) M Q = Q (some (vi x)) M := w_iret mC_134 d134_28 rfl
theorem d136_0 : decode cX11_elementRefusal 0 = .ok (.iload_n 1, 1) := by decide +kernel
theorem k136_0 {d : Nat} {x : Int32} {l0 l2 : Option PV} {st : List PV} {M : Mem} {Q : Option PV → Mem → Prop} : WP d 136 0 [l0, some (vi x), l2] (st) M Q = WP d 136 1 [l0, some (vi x), l2] (vi x :: st) M Q := w1 mC_136 d136_0 rfl rfl
theorem d136_1 : decode cX11_elementRefusal 1 = .ok (.invokestatic 75, 3) := by decide +kernel
theorem k136_1 {d : Nat} {l0 l1 l2 : Option PV} {st : List PV} {M : Mem} {Q : Option PV → Mem → Prop} {a0 : Int32} (hl : szL st ≤ 8) : WP (d + 1) 136 1 [l0, l1, l2] (vi a0 :: st) M Q = WP d 142 0 [some (vi a0)] [] M (fun v M' => WP (d + 1) 136 4 [l0, l1, l2] (psh v st) M' Q) := w_callS mC_136 d136_1 rfl rfl (Nat.le_of_ble_eq_true rfl) (by decide) rfl hl
theorem d136_4 : decode cX11_elementRefusal 4 = .ok (.ifCond .ne 5, 3) := by decide +kernel
theorem k136_4 {d : Nat} {l0 l1 l2 : Option PV} {st : List PV} {M : Mem} {Q : Option PV → Mem → Prop} {x : Int32} : WP d 136 4 [l0, l1, l2] (vi x :: st) M Q = (if x = 0 then WP d 136 7 [l0, l1, l2] (st) M Q else WP d 136 9 [l0, l1, l2] (st) M Q) := w_if_ne mC_136 d136_4 (by decide)
theorem d136_7 : decode cX11_elementRefusal 7 = .ok (.iconst (-1), 1) := by decide +kernel
theorem k136_7 {d : Nat} {l0 l1 l2 : Option PV} {st : List PV} {M : Mem} {Q : Option PV → Mem → Prop} : WP d 136 7 [l0, l1, l2] (st) M Q = WP d 136 8 [l0, l1, l2] (vi (-1) :: st) M Q := w_iconst mC_136 d136_7 (by decide)
theorem d136_8 : decode cX11_elementRefusal 8 = .ok (.ireturn, 1) := by decide +kernel
theorem k136_8 {d : Nat} {l0 l1 l2 : Option PV} {M : Mem} {Q : Option PV → Mem → Prop} {x : Int32} : WP d 136 8 [l0, l1, l2] ([vi x]) M Q = Q (some (vi x)) M := w_iret mC_136 d136_8 rfl
theorem d136_9 : decode cX11_elementRefusal 9 = .ok (.aload_n 0, 1) := by decide +kernel
theorem k136_9 {d x : Nat} {l1 l2 : Option PV} {st : List PV} {M : Mem} {Q : Option PV → Mem → Prop} : WP d 136 9 [some (vr x), l1, l2] (st) M Q = WP d 136 10 [some (vr x), l1, l2] (vr x :: st) M Q := w1 mC_136 d136_9 rfl rfl
theorem d136_10 : decode cX11_elementRefusal 10 = .ok (.getfield 58, 3) := by decide +kernel
theorem k136_10 {d : Nat} {l0 l1 l2 : Option PV} {st : List PV} {M : Mem} {Q : Option PV → Mem → Prop} {r : Nat} (hk : mK M r = 11) : WP d 136 10 [l0, l1, l2] (vr r :: st) M Q = WP d 136 13 [l0, l1, l2] (vr (mR M r 16) :: st) M Q := w_getr mC_136 d136_10 fE_11_58 rfl (by rw [hk]; rfl)
theorem d136_13 : decode cX11_elementRefusal 13 = .ok (.iload_n 1, 1) := by decide +kernel
theorem k136_13 {d : Nat} {x : Int32} {l0 l2 : Option PV} {st : List PV} {M : Mem} {Q : Option PV → Mem → Prop} : WP d 136 13 [l0, some (vi x), l2] (st) M Q = WP d 136 14 [l0, some (vi x), l2] (vi x :: st) M Q := w1 mC_136 d136_13 rfl rfl
theorem d136_14 : decode cX11_elementRefusal 14 = .ok (.aaload, 1) := by decide +kernel
theorem k136_14 {d : Nat} {l0 l1 l2 : Option PV} {st : List PV} {M : Mem} {Q : Option PV → Mem → Prop} {r : Nat} {j : Int32} (hk : mK M r = 15 ∨ mK M r = 16 ∨ mK M r = 17) (hj : inb j (mN M r)) (h1 : r ≠ 1) : WP d 136 14 [l0, l1, l2] (vi j :: vr r :: st) M Q = WP d 136 15 [l0, l1, l2] (vr (mR M r (ix j)) :: st) M Q := w_aald mC_136 d136_14 hk hj h1
theorem d136_15 : decode cX11_elementRefusal 15 = .ok (.invokevirtual 83, 3) := by decide +kernel
theorem k136_15 {d : Nat} {l0 l1 l2 : Option PV} {st : List PV} {M : Mem} {Q : Option PV → Mem → Prop} {r : Nat} (hl : szL st ≤ 8) (hk : mK M r = 9) : WP (d + 1) 136 15 [l0, l1, l2] (vr r :: st) M Q = WP d 59 0 [some (vr r)] [] M (fun v M' => WP (d + 1) 136 18 [l0, l1, l2] (psh v st) M' Q) := w_callV mC_136 d136_15 (ci := 9) rfl rfl rfl (Nat.le_of_ble_eq_true rfl) (by decide) rfl hl (Or.inl hk)
theorem d136_18 : decode cX11_elementRefusal 18 = .ok (.ifCond .eq 6, 3) := by decide +kernel
theorem k136_18 {d : Nat} {l0 l1 l2 : Option PV} {st : List PV} {M : Mem} {Q : Option PV → Mem → Prop} {x : Int32} : WP d 136 18 [l0, l1, l2] (vi x :: st) M Q = (if x = 0 then WP d 136 24 [l0, l1, l2] (st) M Q else WP d 136 21 [l0, l1, l2] (st) M Q) := w_if_eq mC_136 d136_18 (by decide)
theorem d136_21 : decode cX11_elementRefusal 21 = .ok (.bipush (-11), 2) := by decide +kernel
theorem k136_21 {d : Nat} {l0 l1 l2 : Option PV} {st : List PV} {M : Mem} {Q : Option PV → Mem → Prop} : WP d 136 21 [l0, l1, l2] (st) M Q = WP d 136 23 [l0, l1, l2] (vi (-11) :: st) M Q := w_bipush mC_136 d136_21 (by decide)
theorem d136_23 : decode cX11_elementRefusal 23 = .ok (.ireturn, 1) := by decide +kernel
theorem k136_23 {d : Nat} {l0 l1 l2 : Option PV} {M : Mem} {Q : Option PV → Mem → Prop} {x : Int32} : WP d 136 23 [l0, l1, l2] ([vi x]) M Q = Q (some (vi x)) M := w_iret mC_136 d136_23 rfl
theorem d136_24 : decode cX11_elementRefusal 24 = .ok (.aload_n 0, 1) := by decide +kernel
theorem k136_24 {d x : Nat} {l1 l2 : Option PV} {st : List PV} {M : Mem} {Q : Option PV → Mem → Prop} : WP d 136 24 [some (vr x), l1, l2] (st) M Q = WP d 136 25 [some (vr x), l1, l2] (vr x :: st) M Q := w1 mC_136 d136_24 rfl rfl
theorem d136_25 : decode cX11_elementRefusal 25 = .ok (.getfield 58, 3) := by decide +kernel
theorem k136_25 {d : Nat} {l0 l1 l2 : Option PV} {st : List PV} {M : Mem} {Q : Option PV → Mem → Prop} {r : Nat} (hk : mK M r = 11) : WP d 136 25 [l0, l1, l2] (vr r :: st) M Q = WP d 136 28 [l0, l1, l2] (vr (mR M r 16) :: st) M Q := w_getr mC_136 d136_25 fE_11_58 rfl (by rw [hk]; rfl)
theorem d136_28 : decode cX11_elementRefusal 28 = .ok (.iload_n 1, 1) := by decide +kernel
theorem k136_28 {d : Nat} {x : Int32} {l0 l2 : Option PV} {st : List PV} {M : Mem} {Q : Option PV → Mem → Prop} : WP d 136 28 [l0, some (vi x), l2] (st) M Q = WP d 136 29 [l0, some (vi x), l2] (vi x :: st) M Q := w1 mC_136 d136_28 rfl rfl
theorem d136_29 : decode cX11_elementRefusal 29 = .ok (.aaload, 1) := by decide +kernel
theorem k136_29 {d : Nat} {l0 l1 l2 : Option PV} {st : List PV} {M : Mem} {Q : Option PV → Mem → Prop} {r : Nat} {j : Int32} (hk : mK M r = 15 ∨ mK M r = 16 ∨ mK M r = 17) (hj : inb j (mN M r)) (h1 : r ≠ 1) : WP d 136 29 [l0, l1, l2] (vi j :: vr r :: st) M Q = WP d 136 30 [l0, l1, l2] (vr (mR M r (ix j)) :: st) M Q := w_aald mC_136 d136_29 hk hj h1
theorem d136_30 : decode cX11_elementRefusal 30 = .ok (.invokevirtual 380, 3) := by decide +kernel
theorem k136_30 {d : Nat} {l0 l1 l2 : Option PV} {st : List PV} {M : Mem} {Q : Option PV → Mem → Prop} {r : Nat} (hl : szL st ≤ 8) (hk : mK M r = 9) : WP (d + 1) 136 30 [l0, l1, l2] (vr r :: st) M Q = WP d 60 0 [some (vr r)] [] M (fun v M' => WP (d + 1) 136 33 [l0, l1, l2] (psh v st) M' Q) := w_callV mC_136 d136_30 (ci := 9) rfl rfl rfl (Nat.le_of_ble_eq_true rfl) (by decide) rfl hl (Or.inl hk)
theorem d136_33 : decode cX11_elementRefusal 33 = .ok (.ifCond .ne 6, 3) := by decide +kernel
theorem k136_33 {d : Nat} {l0 l1 l2 : Option PV} {st : List PV} {M : Mem} {Q : Option PV → Mem → Prop} {x : Int32} : WP d 136 33 [l0, l1, l2] (vi x :: st) M Q = (if x = 0 then WP d 136 36 [l0, l1, l2] (st) M Q else WP d 136 39 [l0, l1, l2] (st) M Q) := w_if_ne mC_136 d136_33 (by decide)
theorem d136_36 : decode cX11_elementRefusal 36 = .ok (.bipush (-12), 2) := by decide +kernel
theorem k136_36 {d : Nat} {l0 l1 l2 : Option PV} {st : List PV} {M : Mem} {Q : Option PV → Mem → Prop} : WP d 136 36 [l0, l1, l2] (st) M Q = WP d 136 38 [l0, l1, l2] (vi (-12) :: st) M Q := w_bipush mC_136 d136_36 (by decide)
theorem d136_38 : decode cX11_elementRefusal 38 = .ok (.ireturn, 1) := by decide +kernel
theorem k136_38 {d : Nat} {l0 l1 l2 : Option PV} {M : Mem} {Q : Option PV → Mem → Prop} {x : Int32} : WP d 136 38 [l0, l1, l2] ([vi x]) M Q = Q (some (vi x)) M := w_iret mC_136 d136_38 rfl
theorem d136_39 : decode cX11_elementRefusal 39 = .ok (.aload_n 0, 1) := by decide +kernel
theorem k136_39 {d x : Nat} {l1 l2 : Option PV} {st : List PV} {M : Mem} {Q : Option PV → Mem → Prop} : WP d 136 39 [some (vr x), l1, l2] (st) M Q = WP d 136 40 [some (vr x), l1, l2] (vr x :: st) M Q := w1 mC_136 d136_39 rfl rfl
theorem d136_40 : decode cX11_elementRefusal 40 = .ok (.getfield 58, 3) := by decide +kernel
theorem k136_40 {d : Nat} {l0 l1 l2 : Option PV} {st : List PV} {M : Mem} {Q : Option PV → Mem → Prop} {r : Nat} (hk : mK M r = 11) : WP d 136 40 [l0, l1, l2] (vr r :: st) M Q = WP d 136 43 [l0, l1, l2] (vr (mR M r 16) :: st) M Q := w_getr mC_136 d136_40 fE_11_58 rfl (by rw [hk]; rfl)
theorem d136_43 : decode cX11_elementRefusal 43 = .ok (.iload_n 1, 1) := by decide +kernel
theorem k136_43 {d : Nat} {x : Int32} {l0 l2 : Option PV} {st : List PV} {M : Mem} {Q : Option PV → Mem → Prop} : WP d 136 43 [l0, some (vi x), l2] (st) M Q = WP d 136 44 [l0, some (vi x), l2] (vi x :: st) M Q := w1 mC_136 d136_43 rfl rfl
theorem d136_44 : decode cX11_elementRefusal 44 = .ok (.aaload, 1) := by decide +kernel
theorem k136_44 {d : Nat} {l0 l1 l2 : Option PV} {st : List PV} {M : Mem} {Q : Option PV → Mem → Prop} {r : Nat} {j : Int32} (hk : mK M r = 15 ∨ mK M r = 16 ∨ mK M r = 17) (hj : inb j (mN M r)) (h1 : r ≠ 1) : WP d 136 44 [l0, l1, l2] (vi j :: vr r :: st) M Q = WP d 136 45 [l0, l1, l2] (vr (mR M r (ix j)) :: st) M Q := w_aald mC_136 d136_44 hk hj h1
theorem d136_45 : decode cX11_elementRefusal 45 = .ok (.iload_n 2, 1) := by decide +kernel
theorem k136_45 {d : Nat} {x : Int32} {l0 l1 : Option PV} {st : List PV} {M : Mem} {Q : Option PV → Mem → Prop} : WP d 136 45 [l0, l1, some (vi x)] (st) M Q = WP d 136 46 [l0, l1, some (vi x)] (vi x :: st) M Q := w1 mC_136 d136_45 rfl rfl
theorem d136_46 : decode cX11_elementRefusal 46 = .ok (.iconst 1, 1) := by decide +kernel
theorem k136_46 {d : Nat} {l0 l1 l2 : Option PV} {st : List PV} {M : Mem} {Q : Option PV → Mem → Prop} : WP d 136 46 [l0, l1, l2] (st) M Q = WP d 136 47 [l0, l1, l2] (vi 1 :: st) M Q := w_iconst mC_136 d136_46 (by decide)
theorem d136_47 : decode cX11_elementRefusal 47 = .ok (.invokevirtual 90, 3) := by decide +kernel
theorem k136_47 {d : Nat} {l0 l1 l2 : Option PV} {st : List PV} {M : Mem} {Q : Option PV → Mem → Prop} {a0 a1 : Int32} {r : Nat} (hl : szL st ≤ 8) (hk : mK M r = 9) : WP (d + 1) 136 47 [l0, l1, l2] (vi a1 :: vi a0 :: vr r :: st) M Q = WP d 64 0 [some (vr r), some (vi a0), some (vi a1)] [] M (fun v M' => WP (d + 1) 136 50 [l0, l1, l2] (psh v st) M' Q) := w_callV mC_136 d136_47 (ci := 9) rfl rfl rfl (Nat.le_of_ble_eq_true rfl) (by decide) rfl hl (Or.inl hk)
theorem d136_50 : decode cX11_elementRefusal 50 = .ok (.ifCond .eq 7, 3) := by decide +kernel
theorem k136_50 {d : Nat} {l0 l1 l2 : Option PV} {st : List PV} {M : Mem} {Q : Option PV → Mem → Prop} {x : Int32} : WP d 136 50 [l0, l1, l2] (vi x :: st) M Q = (if x = 0 then WP d 136 57 [l0, l1, l2] (st) M Q else WP d 136 53 [l0, l1, l2] (st) M Q) := w_if_eq mC_136 d136_50 (by decide)
theorem d136_53 : decode cX11_elementRefusal 53 = .ok (.iconst 0, 1) := by decide +kernel
theorem k136_53 {d : Nat} {l0 l1 l2 : Option PV} {st : List PV} {M : Mem} {Q : Option PV → Mem → Prop} : WP d 136 53 [l0, l1, l2] (st) M Q = WP d 136 54 [l0, l1, l2] (vi 0 :: st) M Q := w_iconst mC_136 d136_53 (by decide)
theorem d136_54 : decode cX11_elementRefusal 54 = .ok (.goto 5, 3) := by decide +kernel
theorem k136_54 {d : Nat} {l0 l1 l2 : Option PV} {st : List PV} {M : Mem} {Q : Option PV → Mem → Prop} : WP d 136 54 [l0, l1, l2] (st) M Q = WP d 136 59 [l0, l1, l2] (st) M Q := w_goto mC_136 d136_54 (by decide)
theorem d136_57 : decode cX11_elementRefusal 57 = .ok (.bipush (-13), 2) := by decide +kernel
theorem k136_57 {d : Nat} {l0 l1 l2 : Option PV} {st : List PV} {M : Mem} {Q : Option PV → Mem → Prop} : WP d 136 57 [l0, l1, l2] (st) M Q = WP d 136 59 [l0, l1, l2] (vi (-13) :: st) M Q := w_bipush mC_136 d136_57 (by decide)
theorem d136_59 : decode cX11_elementRefusal 59 = .ok (.ireturn, 1) := by decide +kernel
theorem k136_59 {d : Nat} {l0 l1 l2 : Option PV} {M : Mem} {Q : Option PV → Mem → Prop} {x : Int32} : WP d 136 59 [l0, l1, l2] ([vi x]) M Q = Q (some (vi x)) M := w_iret mC_136 d136_59 rfl
theorem d140_0 : decode cX11_count 0 = .ok (.iload_n 1, 1) := by decide +kernel
theorem k140_0 {d : Nat} {x : Int32} {l0 : Option PV} {st : List PV} {M : Mem} {Q : Option PV → Mem → Prop} : WP d 140 0 [l0, some (vi x)] (st) M Q = WP d 140 1 [l0, some (vi x)] (vi x :: st) M Q := w1 mC_140 d140_0 rfl rfl
theorem d140_1 : decode cX11_count 1 = .ok (.tableswitch 77 0 5 #[39, 47, 55, 60, 65, 70], 39) := by decide +kernel
theorem k140_1c0 {d : Nat} {l0 l1 : Option PV} {st : List PV} {M : Mem} {Q : Option PV → Mem → Prop} : WP d 140 1 [l0, l1] (vi 0 :: st) M Q = WP d 140 40 [l0, l1] (st) M Q := w_sw mC_140 d140_1 (by decide +kernel)
theorem k140_1c1 {d : Nat} {l0 l1 : Option PV} {st : List PV} {M : Mem} {Q : Option PV → Mem → Prop} : WP d 140 1 [l0, l1] (vi 1 :: st) M Q = WP d 140 48 [l0, l1] (st) M Q := w_sw mC_140 d140_1 (by decide +kernel)
theorem k140_1c2 {d : Nat} {l0 l1 : Option PV} {st : List PV} {M : Mem} {Q : Option PV → Mem → Prop} : WP d 140 1 [l0, l1] (vi 2 :: st) M Q = WP d 140 56 [l0, l1] (st) M Q := w_sw mC_140 d140_1 (by decide +kernel)
theorem k140_1c3 {d : Nat} {l0 l1 : Option PV} {st : List PV} {M : Mem} {Q : Option PV → Mem → Prop} : WP d 140 1 [l0, l1] (vi 3 :: st) M Q = WP d 140 61 [l0, l1] (st) M Q := w_sw mC_140 d140_1 (by decide +kernel)
theorem k140_1c4 {d : Nat} {l0 l1 : Option PV} {st : List PV} {M : Mem} {Q : Option PV → Mem → Prop} : WP d 140 1 [l0, l1] (vi 4 :: st) M Q = WP d 140 66 [l0, l1] (st) M Q := w_sw mC_140 d140_1 (by decide +kernel)
theorem k140_1c5 {d : Nat} {l0 l1 : Option PV} {st : List PV} {M : Mem} {Q : Option PV → Mem → Prop} : WP d 140 1 [l0, l1] (vi 5 :: st) M Q = WP d 140 71 [l0, l1] (st) M Q := w_sw mC_140 d140_1 (by decide +kernel)
theorem k140_1 {d : Nat} {l0 l1 : Option PV} {st : List PV} {M : Mem} {Q : Option PV → Mem → Prop} {x : Int32} (h : x.toInt < 0 ∨ 5 < x.toInt) : WP d 140 1 [l0, l1] (vi x :: st) M Q = WP d 140 78 [l0, l1] (st) M Q := w_swd mC_140 d140_1 (by decide) h
theorem d140_40 : decode cX11_count 40 = .ok (.aload_n 0, 1) := by decide +kernel
theorem k140_40 {d x : Nat} {l1 : Option PV} {st : List PV} {M : Mem} {Q : Option PV → Mem → Prop} : WP d 140 40 [some (vr x), l1] (st) M Q = WP d 140 41 [some (vr x), l1] (vr x :: st) M Q := w1 mC_140 d140_40 rfl rfl
theorem d140_41 : decode cX11_count 41 = .ok (.getfield 10, 3) := by decide +kernel
theorem k140_41 {d : Nat} {l0 l1 : Option PV} {st : List PV} {M : Mem} {Q : Option PV → Mem → Prop} {r : Nat} (hk : mK M r = 11) : WP d 140 41 [l0, l1] (vr r :: st) M Q = WP d 140 44 [l0, l1] (vr (mR M r 0) :: st) M Q := w_getr mC_140 d140_41 fE_11_10 rfl (by rw [hk]; rfl)
theorem d140_44 : decode cX11_count 44 = .ok (.getfield 199, 3) := by decide +kernel
theorem k140_44 {d : Nat} {l0 l1 : Option PV} {st : List PV} {M : Mem} {Q : Option PV → Mem → Prop} {r : Nat} (hk : mK M r = 4) : WP d 140 44 [l0, l1] (vr r :: st) M Q = WP d 140 47 [l0, l1] (vi (mI M r 7) :: st) M Q := w_get mC_140 d140_44 fE_11_199 rfl (by rw [hk]; rfl)
theorem d140_47 : decode cX11_count 47 = .ok (.ireturn, 1) := by decide +kernel
theorem k140_47 {d : Nat} {l0 l1 : Option PV} {M : Mem} {Q : Option PV → Mem → Prop} {x : Int32} : WP d 140 47 [l0, l1] ([vi x]) M Q = Q (some (vi x)) M := w_iret mC_140 d140_47 rfl
theorem d140_48 : decode cX11_count 48 = .ok (.aload_n 0, 1) := by decide +kernel
theorem k140_48 {d x : Nat} {l1 : Option PV} {st : List PV} {M : Mem} {Q : Option PV → Mem → Prop} : WP d 140 48 [some (vr x), l1] (st) M Q = WP d 140 49 [some (vr x), l1] (vr x :: st) M Q := w1 mC_140 d140_48 rfl rfl
theorem d140_49 : decode cX11_count 49 = .ok (.getfield 10, 3) := by decide +kernel
theorem k140_49 {d : Nat} {l0 l1 : Option PV} {st : List PV} {M : Mem} {Q : Option PV → Mem → Prop} {r : Nat} (hk : mK M r = 11) : WP d 140 49 [l0, l1] (vr r :: st) M Q = WP d 140 52 [l0, l1] (vr (mR M r 0) :: st) M Q := w_getr mC_140 d140_49 fE_11_10 rfl (by rw [hk]; rfl)
theorem d140_52 : decode cX11_count 52 = .ok (.getfield 187, 3) := by decide +kernel
theorem k140_52 {d : Nat} {l0 l1 : Option PV} {st : List PV} {M : Mem} {Q : Option PV → Mem → Prop} {r : Nat} (hk : mK M r = 4) : WP d 140 52 [l0, l1] (vr r :: st) M Q = WP d 140 55 [l0, l1] (vi (mI M r 8) :: st) M Q := w_get mC_140 d140_52 fE_11_187 rfl (by rw [hk]; rfl)
theorem d140_55 : decode cX11_count 55 = .ok (.ireturn, 1) := by decide +kernel
theorem k140_55 {d : Nat} {l0 l1 : Option PV} {M : Mem} {Q : Option PV → Mem → Prop} {x : Int32} : WP d 140 55 [l0, l1] ([vi x]) M Q = Q (some (vi x)) M := w_iret mC_140 d140_55 rfl
theorem d140_56 : decode cX11_count 56 = .ok (.aload_n 0, 1) := by decide +kernel
theorem k140_56 {d x : Nat} {l1 : Option PV} {st : List PV} {M : Mem} {Q : Option PV → Mem → Prop} : WP d 140 56 [some (vr x), l1] (st) M Q = WP d 140 57 [some (vr x), l1] (vr x :: st) M Q := w1 mC_140 d140_56 rfl rfl
theorem d140_57 : decode cX11_count 57 = .ok (.getfield 120, 3) := by decide +kernel
theorem k140_57 {d : Nat} {l0 l1 : Option PV} {st : List PV} {M : Mem} {Q : Option PV → Mem → Prop} {r : Nat} (hk : mK M r = 11) : WP d 140 57 [l0, l1] (vr r :: st) M Q = WP d 140 60 [l0, l1] (vi (mI M r 7) :: st) M Q := w_get mC_140 d140_57 fE_11_120 rfl (by rw [hk]; rfl)
theorem d140_60 : decode cX11_count 60 = .ok (.ireturn, 1) := by decide +kernel
theorem k140_60 {d : Nat} {l0 l1 : Option PV} {M : Mem} {Q : Option PV → Mem → Prop} {x : Int32} : WP d 140 60 [l0, l1] ([vi x]) M Q = Q (some (vi x)) M := w_iret mC_140 d140_60 rfl
theorem d140_61 : decode cX11_count 61 = .ok (.aload_n 0, 1) := by decide +kernel
theorem k140_61 {d x : Nat} {l1 : Option PV} {st : List PV} {M : Mem} {Q : Option PV → Mem → Prop} : WP d 140 61 [some (vr x), l1] (st) M Q = WP d 140 62 [some (vr x), l1] (vr x :: st) M Q := w1 mC_140 d140_61 rfl rfl
theorem d140_62 : decode cX11_count 62 = .ok (.getfield 305, 3) := by decide +kernel
theorem k140_62 {d : Nat} {l0 l1 : Option PV} {st : List PV} {M : Mem} {Q : Option PV → Mem → Prop} {r : Nat} (hk : mK M r = 11) : WP d 140 62 [l0, l1] (vr r :: st) M Q = WP d 140 65 [l0, l1] (vi (mI M r 10) :: st) M Q := w_get mC_140 d140_62 fE_11_305 rfl (by rw [hk]; rfl)
theorem d140_65 : decode cX11_count 65 = .ok (.ireturn, 1) := by decide +kernel
theorem k140_65 {d : Nat} {l0 l1 : Option PV} {M : Mem} {Q : Option PV → Mem → Prop} {x : Int32} : WP d 140 65 [l0, l1] ([vi x]) M Q = Q (some (vi x)) M := w_iret mC_140 d140_65 rfl
theorem d140_66 : decode cX11_count 66 = .ok (.aload_n 0, 1) := by decide +kernel
theorem k140_66 {d x : Nat} {l1 : Option PV} {st : List PV} {M : Mem} {Q : Option PV → Mem → Prop} : WP d 140 66 [some (vr x), l1] (st) M Q = WP d 140 67 [some (vr x), l1] (vr x :: st) M Q := w1 mC_140 d140_66 rfl rfl
theorem d140_67 : decode cX11_count 67 = .ok (.getfield 320, 3) := by decide +kernel
theorem k140_67 {d : Nat} {l0 l1 : Option PV} {st : List PV} {M : Mem} {Q : Option PV → Mem → Prop} {r : Nat} (hk : mK M r = 11) : WP d 140 67 [l0, l1] (vr r :: st) M Q = WP d 140 70 [l0, l1] (vi (mI M r 14) :: st) M Q := w_get mC_140 d140_67 fE_11_320 rfl (by rw [hk]; rfl)
theorem d140_70 : decode cX11_count 70 = .ok (.ireturn, 1) := by decide +kernel
theorem k140_70 {d : Nat} {l0 l1 : Option PV} {M : Mem} {Q : Option PV → Mem → Prop} {x : Int32} : WP d 140 70 [l0, l1] ([vi x]) M Q = Q (some (vi x)) M := w_iret mC_140 d140_70 rfl
theorem d140_71 : decode cX11_count 71 = .ok (.aload_n 0, 1) := by decide +kernel
theorem k140_71 {d x : Nat} {l1 : Option PV} {st : List PV} {M : Mem} {Q : Option PV → Mem → Prop} : WP d 140 71 [some (vr x), l1] (st) M Q = WP d 140 72 [some (vr x), l1] (vr x :: st) M Q := w1 mC_140 d140_71 rfl rfl
theorem d140_72 : decode cX11_count 72 = .ok (.getfield 53, 3) := by decide +kernel
theorem k140_72 {d : Nat} {l0 l1 : Option PV} {st : List PV} {M : Mem} {Q : Option PV → Mem → Prop} {r : Nat} (hk : mK M r = 11) : WP d 140 72 [l0, l1] (vr r :: st) M Q = WP d 140 75 [l0, l1] (vr (mR M r 15) :: st) M Q := w_getr mC_140 d140_72 fE_11_53 rfl (by rw [hk]; rfl)
theorem d140_75 : decode cX11_count 75 = .ok (.iconst 0, 1) := by decide +kernel
theorem k140_75 {d : Nat} {l0 l1 : Option PV} {st : List PV} {M : Mem} {Q : Option PV → Mem → Prop} : WP d 140 75 [l0, l1] (st) M Q = WP d 140 76 [l0, l1] (vi 0 :: st) M Q := w_iconst mC_140 d140_75 (by decide)
theorem d140_76 : decode cX11_count 76 = .ok (.iaload, 1) := by decide +kernel
theorem k140_76 {d : Nat} {l0 l1 : Option PV} {st : List PV} {M : Mem} {Q : Option PV → Mem → Prop} {r : Nat} {j : Int32} (hk : mK M r = 13) (hj : inb j (mN M r)) (_h1 : r ≠ 1) : WP d 140 76 [l0, l1] (vi j :: vr r :: st) M Q = WP d 140 77 [l0, l1] (vi (mI M r (ix j)) :: st) M Q := w_iald mC_140 d140_76 hk hj
theorem d140_77 : decode cX11_count 77 = .ok (.ireturn, 1) := by decide +kernel
theorem k140_77 {d : Nat} {l0 l1 : Option PV} {M : Mem} {Q : Option PV → Mem → Prop} {x : Int32} : WP d 140 77 [l0, l1] ([vi x]) M Q = Q (some (vi x)) M := w_iret mC_140 d140_77 rfl
theorem d140_78 : decode cX11_count 78 = .ok (.iconst (-1), 1) := by decide +kernel
theorem k140_78 {d : Nat} {l0 l1 : Option PV} {st : List PV} {M : Mem} {Q : Option PV → Mem → Prop} : WP d 140 78 [l0, l1] (st) M Q = WP d 140 79 [l0, l1] (vi (-1) :: st) M Q := w_iconst mC_140 d140_78 (by decide)
theorem d140_79 : decode cX11_count 79 = .ok (.ireturn, 1) := by decide +kernel
theorem k140_79 {d : Nat} {l0 l1 : Option PV} {M : Mem} {Q : Option PV → Mem → Prop} {x : Int32} : WP d 140 79 [l0, l1] ([vi x]) M Q = Q (some (vi x)) M := w_iret mC_140 d140_79 rfl
theorem d141_0 : decode cX11_within 0 = .ok (.iload_n 0, 1) := by decide +kernel
theorem k141_0 {d : Nat} {x : Int32} {l1 l2 : Option PV} {st : List PV} {M : Mem} {Q : Option PV → Mem → Prop} : WP d 141 0 [some (vi x), l1, l2] (st) M Q = WP d 141 1 [some (vi x), l1, l2] (vi x :: st) M Q := w1 mC_141 d141_0 rfl rfl
theorem d141_1 : decode cX11_within 1 = .ok (.iload_n 1, 1) := by decide +kernel
theorem k141_1 {d : Nat} {x : Int32} {l0 l2 : Option PV} {st : List PV} {M : Mem} {Q : Option PV → Mem → Prop} : WP d 141 1 [l0, some (vi x), l2] (st) M Q = WP d 141 2 [l0, some (vi x), l2] (vi x :: st) M Q := w1 mC_141 d141_1 rfl rfl
theorem d141_2 : decode cX11_within 2 = .ok (.if_icmp .lt 12, 3) := by decide +kernel
theorem k141_2 {d : Nat} {l0 l1 l2 : Option PV} {st : List PV} {M : Mem} {Q : Option PV → Mem → Prop} {x y : Int32} : WP d 141 2 [l0, l1, l2] (vi y :: vi x :: st) M Q = (if x < y then WP d 141 14 [l0, l1, l2] (st) M Q else WP d 141 5 [l0, l1, l2] (st) M Q) := w_ic_lt mC_141 d141_2 (by decide)
theorem d141_5 : decode cX11_within 5 = .ok (.iload_n 0, 1) := by decide +kernel
theorem k141_5 {d : Nat} {x : Int32} {l1 l2 : Option PV} {st : List PV} {M : Mem} {Q : Option PV → Mem → Prop} : WP d 141 5 [some (vi x), l1, l2] (st) M Q = WP d 141 6 [some (vi x), l1, l2] (vi x :: st) M Q := w1 mC_141 d141_5 rfl rfl
theorem d141_6 : decode cX11_within 6 = .ok (.iload_n 2, 1) := by decide +kernel
theorem k141_6 {d : Nat} {x : Int32} {l0 l1 : Option PV} {st : List PV} {M : Mem} {Q : Option PV → Mem → Prop} : WP d 141 6 [l0, l1, some (vi x)] (st) M Q = WP d 141 7 [l0, l1, some (vi x)] (vi x :: st) M Q := w1 mC_141 d141_6 rfl rfl
theorem d141_7 : decode cX11_within 7 = .ok (.if_icmp .gt 7, 3) := by decide +kernel
theorem k141_7 {d : Nat} {l0 l1 l2 : Option PV} {st : List PV} {M : Mem} {Q : Option PV → Mem → Prop} {x y : Int32} : WP d 141 7 [l0, l1, l2] (vi y :: vi x :: st) M Q = (if y < x then WP d 141 14 [l0, l1, l2] (st) M Q else WP d 141 10 [l0, l1, l2] (st) M Q) := w_ic_gt mC_141 d141_7 (by decide)
theorem d141_10 : decode cX11_within 10 = .ok (.iconst 1, 1) := by decide +kernel
theorem k141_10 {d : Nat} {l0 l1 l2 : Option PV} {st : List PV} {M : Mem} {Q : Option PV → Mem → Prop} : WP d 141 10 [l0, l1, l2] (st) M Q = WP d 141 11 [l0, l1, l2] (vi 1 :: st) M Q := w_iconst mC_141 d141_10 (by decide)
theorem d141_11 : decode cX11_within 11 = .ok (.goto 4, 3) := by decide +kernel
theorem k141_11 {d : Nat} {l0 l1 l2 : Option PV} {st : List PV} {M : Mem} {Q : Option PV → Mem → Prop} : WP d 141 11 [l0, l1, l2] (st) M Q = WP d 141 15 [l0, l1, l2] (st) M Q := w_goto mC_141 d141_11 (by decide)
theorem d141_14 : decode cX11_within 14 = .ok (.iconst 0, 1) := by decide +kernel
theorem k141_14 {d : Nat} {l0 l1 l2 : Option PV} {st : List PV} {M : Mem} {Q : Option PV → Mem → Prop} : WP d 141 14 [l0, l1, l2] (st) M Q = WP d 141 15 [l0, l1, l2] (vi 0 :: st) M Q := w_iconst mC_141 d141_14 (by decide)
theorem d141_15 : decode cX11_within 15 = .ok (.ireturn, 1) := by decide +kernel
theorem k141_15 {d : Nat} {l0 l1 l2 : Option PV} {M : Mem} {Q : Option PV → Mem → Prop} {x : Int32} (hx : x = 0 ∨ x = 1) : WP d 141 15 [l0, l1, l2] ([vi x]) M Q = Q (some (vi x)) M := w_zret mC_141 d141_15 rfl hx
theorem d142_0 : decode cX11_isShelf 0 = .ok (.iload_n 0, 1) := by decide +kernel
theorem k142_0 {d : Nat} {x : Int32} {st : List PV} {M : Mem} {Q : Option PV → Mem → Prop} : WP d 142 0 [some (vi x)] (st) M Q = WP d 142 1 [some (vi x)] (vi x :: st) M Q := w1 mC_142 d142_0 rfl rfl
theorem d142_1 : decode cX11_isShelf 1 = .ok (.iconst 0, 1) := by decide +kernel
theorem k142_1 {d : Nat} {l0 : Option PV} {st : List PV} {M : Mem} {Q : Option PV → Mem → Prop} : WP d 142 1 [l0] (st) M Q = WP d 142 2 [l0] (vi 0 :: st) M Q := w_iconst mC_142 d142_1 (by decide)
theorem d142_2 : decode cX11_isShelf 2 = .ok (.iconst 5, 1) := by decide +kernel
theorem k142_2 {d : Nat} {l0 : Option PV} {st : List PV} {M : Mem} {Q : Option PV → Mem → Prop} : WP d 142 2 [l0] (st) M Q = WP d 142 3 [l0] (vi 5 :: st) M Q := w_iconst mC_142 d142_2 (by decide)
theorem d142_3 : decode cX11_isShelf 3 = .ok (.invokestatic 79, 3) := by decide +kernel
theorem k142_3 {d : Nat} {l0 : Option PV} {st : List PV} {M : Mem} {Q : Option PV → Mem → Prop} {a0 a1 a2 : Int32} (hl : szL st ≤ 8) : WP (d + 1) 142 3 [l0] (vi a2 :: vi a1 :: vi a0 :: st) M Q = WP d 141 0 [some (vi a0), some (vi a1), some (vi a2)] [] M (fun v M' => WP (d + 1) 142 6 [l0] (psh v st) M' Q) := w_callS mC_142 d142_3 rfl rfl (Nat.le_of_ble_eq_true rfl) (by decide) rfl hl
theorem d142_6 : decode cX11_isShelf 6 = .ok (.ireturn, 1) := by decide +kernel
theorem k142_6 {d : Nat} {l0 : Option PV} {M : Mem} {Q : Option PV → Mem → Prop} {x : Int32} (hx : x = 0 ∨ x = 1) : WP d 142 6 [l0] ([vi x]) M Q = Q (some (vi x)) M := w_zret mC_142 d142_6 rfl hx
theorem d143_0 : decode cX11_isPair 0 = .ok (.iload_n 1, 1) := by decide +kernel
theorem k143_0 {d : Nat} {x : Int32} {l0 : Option PV} {st : List PV} {M : Mem} {Q : Option PV → Mem → Prop} : WP d 143 0 [l0, some (vi x)] (st) M Q = WP d 143 1 [l0, some (vi x)] (vi x :: st) M Q := w1 mC_143 d143_0 rfl rfl
theorem d143_1 : decode cX11_isPair 1 = .ok (.ifCond .lt 35, 3) := by decide +kernel
theorem k143_1 {d : Nat} {l0 l1 : Option PV} {st : List PV} {M : Mem} {Q : Option PV → Mem → Prop} {x : Int32} : WP d 143 1 [l0, l1] (vi x :: st) M Q = (if x < 0 then WP d 143 36 [l0, l1] (st) M Q else WP d 143 4 [l0, l1] (st) M Q) := w_if_lt mC_143 d143_1 (by decide)
theorem d143_4 : decode cX11_isPair 4 = .ok (.aload_n 0, 1) := by decide +kernel
theorem k143_4 {d x : Nat} {l1 : Option PV} {st : List PV} {M : Mem} {Q : Option PV → Mem → Prop} : WP d 143 4 [some (vr x), l1] (st) M Q = WP d 143 5 [some (vr x), l1] (vr x :: st) M Q := w1 mC_143 d143_4 rfl rfl
theorem d143_5 : decode cX11_isPair 5 = .ok (.getfield 10, 3) := by decide +kernel
theorem k143_5 {d : Nat} {l0 l1 : Option PV} {st : List PV} {M : Mem} {Q : Option PV → Mem → Prop} {r : Nat} (hk : mK M r = 11) : WP d 143 5 [l0, l1] (vr r :: st) M Q = WP d 143 8 [l0, l1] (vr (mR M r 0) :: st) M Q := w_getr mC_143 d143_5 fE_11_10 rfl (by rw [hk]; rfl)
theorem d143_8 : decode cX11_isPair 8 = .ok (.iload_n 1, 1) := by decide +kernel
theorem k143_8 {d : Nat} {x : Int32} {l0 : Option PV} {st : List PV} {M : Mem} {Q : Option PV → Mem → Prop} : WP d 143 8 [l0, some (vi x)] (st) M Q = WP d 143 9 [l0, some (vi x)] (vi x :: st) M Q := w1 mC_143 d143_8 rfl rfl
theorem d143_9 : decode cX11_isPair 9 = .ok (.bipush 10, 2) := by decide +kernel
theorem k143_9 {d : Nat} {l0 l1 : Option PV} {st : List PV} {M : Mem} {Q : Option PV → Mem → Prop} : WP d 143 9 [l0, l1] (st) M Q = WP d 143 11 [l0, l1] (vi 10 :: st) M Q := w_bipush mC_143 d143_9 (by decide)
theorem d143_11 : decode cX11_isPair 11 = .ok (.idiv, 1) := by decide +kernel
theorem k143_11 {d : Nat} {l0 l1 : Option PV} {st : List PV} {M : Mem} {Q : Option PV → Mem → Prop} {x y : Int32} (h : y ≠ 0) : WP d 143 11 [l0, l1] (vi y :: vi x :: st) M Q = WP d 143 12 [l0, l1] (vi (x / y) :: st) M Q := w_div mC_143 d143_11 h
theorem d143_12 : decode cX11_isPair 12 = .ok (.invokevirtual 117, 3) := by decide +kernel
theorem k143_12 {d : Nat} {l0 l1 : Option PV} {st : List PV} {M : Mem} {Q : Option PV → Mem → Prop} {a0 : Int32} {r : Nat} (hl : szL st ≤ 8) (hk : mK M r = 4) : WP (d + 1) 143 12 [l0, l1] (vi a0 :: vr r :: st) M Q = WP d 24 0 [some (vr r), some (vi a0)] [] M (fun v M' => WP (d + 1) 143 15 [l0, l1] (psh v st) M' Q) := w_callV mC_143 d143_12 (ci := 4) rfl rfl rfl (Nat.le_of_ble_eq_true rfl) (by decide) rfl hl (Or.inl hk)
theorem d143_15 : decode cX11_isPair 15 = .ok (.ifCond .eq 21, 3) := by decide +kernel
theorem k143_15 {d : Nat} {l0 l1 : Option PV} {st : List PV} {M : Mem} {Q : Option PV → Mem → Prop} {x : Int32} : WP d 143 15 [l0, l1] (vi x :: st) M Q = (if x = 0 then WP d 143 36 [l0, l1] (st) M Q else WP d 143 18 [l0, l1] (st) M Q) := w_if_eq mC_143 d143_15 (by decide)
theorem d143_18 : decode cX11_isPair 18 = .ok (.aload_n 0, 1) := by decide +kernel
theorem k143_18 {d x : Nat} {l1 : Option PV} {st : List PV} {M : Mem} {Q : Option PV → Mem → Prop} : WP d 143 18 [some (vr x), l1] (st) M Q = WP d 143 19 [some (vr x), l1] (vr x :: st) M Q := w1 mC_143 d143_18 rfl rfl
theorem d143_19 : decode cX11_isPair 19 = .ok (.getfield 10, 3) := by decide +kernel
theorem k143_19 {d : Nat} {l0 l1 : Option PV} {st : List PV} {M : Mem} {Q : Option PV → Mem → Prop} {r : Nat} (hk : mK M r = 11) : WP d 143 19 [l0, l1] (vr r :: st) M Q = WP d 143 22 [l0, l1] (vr (mR M r 0) :: st) M Q := w_getr mC_143 d143_19 fE_11_10 rfl (by rw [hk]; rfl)
theorem d143_22 : decode cX11_isPair 22 = .ok (.iload_n 1, 1) := by decide +kernel
theorem k143_22 {d : Nat} {x : Int32} {l0 : Option PV} {st : List PV} {M : Mem} {Q : Option PV → Mem → Prop} : WP d 143 22 [l0, some (vi x)] (st) M Q = WP d 143 23 [l0, some (vi x)] (vi x :: st) M Q := w1 mC_143 d143_22 rfl rfl
theorem d143_23 : decode cX11_isPair 23 = .ok (.bipush 10, 2) := by decide +kernel
theorem k143_23 {d : Nat} {l0 l1 : Option PV} {st : List PV} {M : Mem} {Q : Option PV → Mem → Prop} : WP d 143 23 [l0, l1] (st) M Q = WP d 143 25 [l0, l1] (vi 10 :: st) M Q := w_bipush mC_143 d143_23 (by decide)
theorem d143_25 : decode cX11_isPair 25 = .ok (.irem, 1) := by decide +kernel
theorem k143_25 {d : Nat} {l0 l1 : Option PV} {st : List PV} {M : Mem} {Q : Option PV → Mem → Prop} {x y : Int32} (h : y ≠ 0) : WP d 143 25 [l0, l1] (vi y :: vi x :: st) M Q = WP d 143 26 [l0, l1] (vi (x % y) :: st) M Q := w_rem mC_143 d143_25 h
theorem d143_26 : decode cX11_isPair 26 = .ok (.invokevirtual 128, 3) := by decide +kernel
theorem k143_26 {d : Nat} {l0 l1 : Option PV} {st : List PV} {M : Mem} {Q : Option PV → Mem → Prop} {a0 : Int32} {r : Nat} (hl : szL st ≤ 8) (hk : mK M r = 4) : WP (d + 1) 143 26 [l0, l1] (vi a0 :: vr r :: st) M Q = WP d 25 0 [some (vr r), some (vi a0)] [] M (fun v M' => WP (d + 1) 143 29 [l0, l1] (psh v st) M' Q) := w_callV mC_143 d143_26 (ci := 4) rfl rfl rfl (Nat.le_of_ble_eq_true rfl) (by decide) rfl hl (Or.inl hk)
theorem d143_29 : decode cX11_isPair 29 = .ok (.ifCond .eq 7, 3) := by decide +kernel
theorem k143_29 {d : Nat} {l0 l1 : Option PV} {st : List PV} {M : Mem} {Q : Option PV → Mem → Prop} {x : Int32} : WP d 143 29 [l0, l1] (vi x :: st) M Q = (if x = 0 then WP d 143 36 [l0, l1] (st) M Q else WP d 143 32 [l0, l1] (st) M Q) := w_if_eq mC_143 d143_29 (by decide)
theorem d143_32 : decode cX11_isPair 32 = .ok (.iconst 1, 1) := by decide +kernel
theorem k143_32 {d : Nat} {l0 l1 : Option PV} {st : List PV} {M : Mem} {Q : Option PV → Mem → Prop} : WP d 143 32 [l0, l1] (st) M Q = WP d 143 33 [l0, l1] (vi 1 :: st) M Q := w_iconst mC_143 d143_32 (by decide)
theorem d143_33 : decode cX11_isPair 33 = .ok (.goto 4, 3) := by decide +kernel
theorem k143_33 {d : Nat} {l0 l1 : Option PV} {st : List PV} {M : Mem} {Q : Option PV → Mem → Prop} : WP d 143 33 [l0, l1] (st) M Q = WP d 143 37 [l0, l1] (st) M Q := w_goto mC_143 d143_33 (by decide)
theorem d143_36 : decode cX11_isPair 36 = .ok (.iconst 0, 1) := by decide +kernel
theorem k143_36 {d : Nat} {l0 l1 : Option PV} {st : List PV} {M : Mem} {Q : Option PV → Mem → Prop} : WP d 143 36 [l0, l1] (st) M Q = WP d 143 37 [l0, l1] (vi 0 :: st) M Q := w_iconst mC_143 d143_36 (by decide)
theorem d143_37 : decode cX11_isPair 37 = .ok (.ireturn, 1) := by decide +kernel
theorem k143_37 {d : Nat} {l0 l1 : Option PV} {M : Mem} {Q : Option PV → Mem → Prop} {x : Int32} (hx : x = 0 ∨ x = 1) : WP d 143 37 [l0, l1] ([vi x]) M Q = Q (some (vi x)) M := w_zret mC_143 d143_37 rfl hx
