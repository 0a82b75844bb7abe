/-! step rows, by program (wip/p44/gen_rows.py) -/
theorem d23_0 : decode cX4_init 0 = .ok (.aload_n 0, 1) := by decide +kernel
theorem k23_0 {d x : Nat} {st : List PV} {M : Mem} {Q : Option PV → Mem → Prop} : WP d 23 0 [some (vr x)] (st) M Q = WP d 23 1 [some (vr x)] (vr x :: st) M Q := w1 mC_23 d23_0 rfl rfl
theorem d23_1 : decode cX4_init 1 = .ok (.invokespecial 3, 3) := by decide +kernel
theorem k23_1 {d : Nat} {l0 : Option PV} {st : List PV} {M : Mem} {Q : Option PV → Mem → Prop} {r : Nat} (hl : szL st ≤ 8) (hk : mK M r < 13) : WP d 23 1 [l0] (vr r :: st) M Q = WP d 23 4 [l0] (st) M Q := w_oi mC_23 d23_1 rfl rfl rfl rfl hl hk
theorem d23_4 : decode cX4_init 4 = .ok (.aload_n 0, 1) := by decide +kernel
theorem k23_4 {d x : Nat} {st : List PV} {M : Mem} {Q : Option PV → Mem → Prop} : WP d 23 4 [some (vr x)] (st) M Q = WP d 23 5 [some (vr x)] (vr x :: st) M Q := w1 mC_23 d23_4 rfl rfl
theorem d23_5 : decode cX4_init 5 = .ok (.bipush 8, 2) := by decide +kernel
theorem k23_5 {d : Nat} {l0 : Option PV} {st : List PV} {M : Mem} {Q : Option PV → Mem → Prop} : WP d 23 5 [l0] (st) M Q = WP d 23 7 [l0] (vi 8 :: st) M Q := w_bipush mC_23 d23_5 (by decide)
theorem d23_7 : decode cX4_init 7 = .ok (.newarray .int, 2) := by decide +kernel
theorem k23_7 {d : Nat} {l0 : Option PV} {st : List PV} {M : Mem} {Q : Option PV → Mem → Prop} {x : Int32} (hx : ¬ x < 0 ∧ ix x ≤ 100000) : WP d 23 7 [l0] (vi x :: st) M Q = WP d 23 9 [l0] (vr (mX M) :: st) (nw M 13 (ix x) (ix x)) Q := w_nwi mC_23 d23_7 hx
theorem d23_9 : decode cX4_init 9 = .ok (.putfield 9, 3) := by decide +kernel
theorem k23_9 {d : Nat} {l0 : Option PV} {st : List PV} {M : Mem} {Q : Option PV → Mem → Prop} {r q : Nat} (hk : mK M r = 4) : WP d 23 9 [l0] (vr q :: vr r :: st) M Q = WP d 23 12 [l0] (st) (sR M r 0 q) Q := w_putr mC_23 d23_9 fE_4_9 (by decide +kernel) (by rw [hk]; rfl)
theorem d23_12 : decode cX4_init 12 = .ok (.aload_n 0, 1) := by decide +kernel
theorem k23_12 {d x : Nat} {st : List PV} {M : Mem} {Q : Option PV → Mem → Prop} : WP d 23 12 [some (vr x)] (st) M Q = WP d 23 13 [some (vr x)] (vr x :: st) M Q := w1 mC_23 d23_12 rfl rfl
theorem d23_13 : decode cX4_init 13 = .ok (.bipush 8, 2) := by decide +kernel
theorem k23_13 {d : Nat} {l0 : Option PV} {st : List PV} {M : Mem} {Q : Option PV → Mem → Prop} : WP d 23 13 [l0] (st) M Q = WP d 23 15 [l0] (vi 8 :: st) M Q := w_bipush mC_23 d23_13 (by decide)
theorem d23_15 : decode cX4_init 15 = .ok (.newarray .int, 2) := by decide +kernel
theorem k23_15 {d : Nat} {l0 : Option PV} {st : List PV} {M : Mem} {Q : Option PV → Mem → Prop} {x : Int32} (hx : ¬ x < 0 ∧ ix x ≤ 100000) : WP d 23 15 [l0] (vi x :: st) M Q = WP d 23 17 [l0] (vr (mX M) :: st) (nw M 13 (ix x) (ix x)) Q := w_nwi mC_23 d23_15 hx
theorem d23_17 : decode cX4_init 17 = .ok (.putfield 15, 3) := by decide +kernel
theorem k23_17 {d : Nat} {l0 : Option PV} {st : List PV} {M : Mem} {Q : Option PV → Mem → Prop} {r q : Nat} (hk : mK M r = 4) : WP d 23 17 [l0] (vr q :: vr r :: st) M Q = WP d 23 20 [l0] (st) (sR M r 1 q) Q := w_putr mC_23 d23_17 fE_4_15 (by decide +kernel) (by rw [hk]; rfl)
theorem d23_20 : decode cX4_init 20 = .ok (.aload_n 0, 1) := by decide +kernel
theorem k23_20 {d x : Nat} {st : List PV} {M : Mem} {Q : Option PV → Mem → Prop} : WP d 23 20 [some (vr x)] (st) M Q = WP d 23 21 [some (vr x)] (vr x :: st) M Q := w1 mC_23 d23_20 rfl rfl
theorem d23_21 : decode cX4_init 21 = .ok (.bipush 8, 2) := by decide +kernel
theorem k23_21 {d : Nat} {l0 : Option PV} {st : List PV} {M : Mem} {Q : Option PV → Mem → Prop} : WP d 23 21 [l0] (st) M Q = WP d 23 23 [l0] (vi 8 :: st) M Q := w_bipush mC_23 d23_21 (by decide)
theorem d23_23 : decode cX4_init 23 = .ok (.newarray .int, 2) := by decide +kernel
theorem k23_23 {d : Nat} {l0 : Option PV} {st : List PV} {M : Mem} {Q : Option PV → Mem → Prop} {x : Int32} (hx : ¬ x < 0 ∧ ix x ≤ 100000) : WP d 23 23 [l0] (vi x :: st) M Q = WP d 23 25 [l0] (vr (mX M) :: st) (nw M 13 (ix x) (ix x)) Q := w_nwi mC_23 d23_23 hx
theorem d23_25 : decode cX4_init 25 = .ok (.putfield 18, 3) := by decide +kernel
theorem k23_25 {d : Nat} {l0 : Option PV} {st : List PV} {M : Mem} {Q : Option PV → Mem → Prop} {r q : Nat} (hk : mK M r = 4) : WP d 23 25 [l0] (vr q :: vr r :: st) M Q = WP d 23 28 [l0] (st) (sR M r 2 q) Q := w_putr mC_23 d23_25 fE_4_18 (by decide +kernel) (by rw [hk]; rfl)
theorem d23_28 : decode cX4_init 28 = .ok (.aload_n 0, 1) := by decide +kernel
theorem k23_28 {d x : Nat} {st : List PV} {M : Mem} {Q : Option PV → Mem → Prop} : WP d 23 28 [some (vr x)] (st) M Q = WP d 23 29 [some (vr x)] (vr x :: st) M Q := w1 mC_23 d23_28 rfl rfl
theorem d23_29 : decode cX4_init 29 = .ok (.bipush 8, 2) := by decide +kernel
theorem k23_29 {d : Nat} {l0 : Option PV} {st : List PV} {M : Mem} {Q : Option PV → Mem → Prop} : WP d 23 29 [l0] (st) M Q = WP d 23 31 [l0] (vi 8 :: st) M Q := w_bipush mC_23 d23_29 (by decide)
theorem d23_31 : decode cX4_init 31 = .ok (.newarray .int, 2) := by decide +kernel
theorem k23_31 {d : Nat} {l0 : Option PV} {st : List PV} {M : Mem} {Q : Option PV → Mem → Prop} {x : Int32} (hx : ¬ x < 0 ∧ ix x ≤ 100000) : WP d 23 31 [l0] (vi x :: st) M Q = WP d 23 33 [l0] (vr (mX M) :: st) (nw M 13 (ix x) (ix x)) Q := w_nwi mC_23 d23_31 hx
theorem d23_33 : decode cX4_init 33 = .ok (.putfield 21, 3) := by decide +kernel
theorem k23_33 {d : Nat} {l0 : Option PV} {st : List PV} {M : Mem} {Q : Option PV → Mem → Prop} {r q : Nat} (hk : mK M r = 4) : WP d 23 33 [l0] (vr q :: vr r :: st) M Q = WP d 23 36 [l0] (st) (sR M r 3 q) Q := w_putr mC_23 d23_33 fE_4_21 (by decide +kernel) (by rw [hk]; rfl)
theorem d23_36 : decode cX4_init 36 = .ok (.aload_n 0, 1) := by decide +kernel
theorem k23_36 {d x : Nat} {st : List PV} {M : Mem} {Q : Option PV → Mem → Prop} : WP d 23 36 [some (vr x)] (st) M Q = WP d 23 37 [some (vr x)] (vr x :: st) M Q := w1 mC_23 d23_36 rfl rfl
theorem d23_37 : decode cX4_init 37 = .ok (.bipush 8, 2) := by decide +kernel
theorem k23_37 {d : Nat} {l0 : Option PV} {st : List PV} {M : Mem} {Q : Option PV → Mem → Prop} : WP d 23 37 [l0] (st) M Q = WP d 23 39 [l0] (vi 8 :: st) M Q := w_bipush mC_23 d23_37 (by decide)
theorem d23_39 : decode cX4_init 39 = .ok (.newarray .int, 2) := by decide +kernel
theorem k23_39 {d : Nat} {l0 : Option PV} {st : List PV} {M : Mem} {Q : Option PV → Mem → Prop} {x : Int32} (hx : ¬ x < 0 ∧ ix x ≤ 100000) : WP d 23 39 [l0] (vi x :: st) M Q = WP d 23 41 [l0] (vr (mX M) :: st) (nw M 13 (ix x) (ix x)) Q := w_nwi mC_23 d23_39 hx
theorem d23_41 : decode cX4_init 41 = .ok (.putfield 24, 3) := by decide +kernel
theorem k23_41 {d : Nat} {l0 : Option PV} {st : List PV} {M : Mem} {Q : Option PV → Mem → Prop} {r q : Nat} (hk : mK M r = 4) : WP d 23 41 [l0] (vr q :: vr r :: st) M Q = WP d 23 44 [l0] (st) (sR M r 4 q) Q := w_putr mC_23 d23_41 fE_4_24 (by decide +kernel) (by rw [hk]; rfl)
theorem d23_44 : decode cX4_init 44 = .ok (.aload_n 0, 1) := by decide +kernel
theorem k23_44 {d x : Nat} {st : List PV} {M : Mem} {Q : Option PV → Mem → Prop} : WP d 23 44 [some (vr x)] (st) M Q = WP d 23 45 [some (vr x)] (vr x :: st) M Q := w1 mC_23 d23_44 rfl rfl
theorem d23_45 : decode cX4_init 45 = .ok (.bipush 8, 2) := by decide +kernel
theorem k23_45 {d : Nat} {l0 : Option PV} {st : List PV} {M : Mem} {Q : Option PV → Mem → Prop} : WP d 23 45 [l0] (st) M Q = WP d 23 47 [l0] (vi 8 :: st) M Q := w_bipush mC_23 d23_45 (by decide)
theorem d23_47 : decode cX4_init 47 = .ok (.newarray .int, 2) := by decide +kernel
theorem k23_47 {d : Nat} {l0 : Option PV} {st : List PV} {M : Mem} {Q : Option PV → Mem → Prop} {x : Int32} (hx : ¬ x < 0 ∧ ix x ≤ 100000) : WP d 23 47 [l0] (vi x :: st) M Q = WP d 23 49 [l0] (vr (mX M) :: st) (nw M 13 (ix x) (ix x)) Q := w_nwi mC_23 d23_47 hx
theorem d23_49 : decode cX4_init 49 = .ok (.putfield 27, 3) := by decide +kernel
theorem k23_49 {d : Nat} {l0 : Option PV} {st : List PV} {M : Mem} {Q : Option PV → Mem → Prop} {r q : Nat} (hk : mK M r = 4) : WP d 23 49 [l0] (vr q :: vr r :: st) M Q = WP d 23 52 [l0] (st) (sR M r 5 q) Q := w_putr mC_23 d23_49 fE_4_27 (by decide +kernel) (by rw [hk]; rfl)
theorem d23_52 : decode cX4_init 52 = .ok (.aload_n 0, 1) := by decide +kernel
theorem k23_52 {d x : Nat} {st : List PV} {M : Mem} {Q : Option PV → Mem → Prop} : WP d 23 52 [some (vr x)] (st) M Q = WP d 23 53 [some (vr x)] (vr x :: st) M Q := w1 mC_23 d23_52 rfl rfl
theorem d23_53 : decode cX4_init 53 = .ok (.iconst 5, 1) := by decide +kernel
theorem k23_53 {d : Nat} {l0 : Option PV} {st : List PV} {M : Mem} {Q : Option PV → Mem → Prop} : WP d 23 53 [l0] (st) M Q = WP d 23 54 [l0] (vi 5 :: st) M Q := w_iconst mC_23 d23_53 (by decide)
theorem d23_54 : decode cX4_init 54 = .ok (.newarray .int, 2) := by decide +kernel
theorem k23_54 {d : Nat} {l0 : Option PV} {st : List PV} {M : Mem} {Q : Option PV → Mem → Prop} {x : Int32} (hx : ¬ x < 0 ∧ ix x ≤ 100000) : WP d 23 54 [l0] (vi x :: st) M Q = WP d 23 56 [l0] (vr (mX M) :: st) (nw M 13 (ix x) (ix x)) Q := w_nwi mC_23 d23_54 hx
theorem d23_56 : decode cX4_init 56 = .ok (.putfield 30, 3) := by decide +kernel
theorem k23_56 {d : Nat} {l0 : Option PV} {st : List PV} {M : Mem} {Q : Option PV → Mem → Prop} {r q : Nat} (hk : mK M r = 4) : WP d 23 56 [l0] (vr q :: vr r :: st) M Q = WP d 23 59 [l0] (st) (sR M r 6 q) Q := w_putr mC_23 d23_56 fE_4_30 (by decide +kernel) (by rw [hk]; rfl)
theorem d23_59 : decode cX4_init 59 = .ok (.aload_n 0, 1) := by decide +kernel
theorem k23_59 {d x : Nat} {st : List PV} {M : Mem} {Q : Option PV → Mem → Prop} : WP d 23 59 [some (vr x)] (st) M Q = WP d 23 60 [some (vr x)] (vr x :: st) M Q := w1 mC_23 d23_59 rfl rfl
theorem d23_60 : decode cX4_init 60 = .ok (.iconst 5, 1) := by decide +kernel
theorem k23_60 {d : Nat} {l0 : Option PV} {st : List PV} {M : Mem} {Q : Option PV → Mem → Prop} : WP d 23 60 [l0] (st) M Q = WP d 23 61 [l0] (vi 5 :: st) M Q := w_iconst mC_23 d23_60 (by decide)
theorem d23_61 : decode cX4_init 61 = .ok (.putfield 33, 3) := by decide +kernel
theorem k23_61 {d : Nat} {l0 : Option PV} {st : List PV} {M : Mem} {Q : Option PV → Mem → Prop} {r : Nat} {x : Int32} (hk : mK M r = 4) : WP d 23 61 [l0] (vi x :: vr r :: st) M Q = WP d 23 64 [l0] (st) (sI M r 9 x) Q := w_put mC_23 d23_61 fE_4_33 (by decide +kernel) (by rw [hk]; rfl)
theorem d23_64 : decode cX4_init 64 = .ok (.return_, 1) := by decide +kernel
theorem k23_64 {d : Nat} {l0 : Option PV} {M : Mem} {Q : Option PV → Mem → Prop} : WP d 23 64 [l0] ([]) M Q = Q none M := w_vret mC_23 d23_64 rfl
theorem d24_0 : decode cX4_hasGirl 0 = .ok (.iload_n 1, 1) := by decide +kernel
theorem k24_0 {d : Nat} {x : Int32} {l0 : Option PV} {st : List PV} {M : Mem} {Q : Option PV → Mem → Prop} : WP d 24 0 [l0, some (vi x)] (st) M Q = WP d 24 1 [l0, some (vi x)] (vi x :: st) M Q := w1 mC_24 d24_0 rfl rfl
theorem d24_1 : decode cX4_hasGirl 1 = .ok (.iconst 0, 1) := by decide +kernel
theorem k24_1 {d : Nat} {l0 l1 : Option PV} {st : List PV} {M : Mem} {Q : Option PV → Mem → Prop} : WP d 24 1 [l0, l1] (st) M Q = WP d 24 2 [l0, l1] (vi 0 :: st) M Q := w_iconst mC_24 d24_1 (by decide)
theorem d24_2 : decode cX4_hasGirl 2 = .ok (.aload_n 0, 1) := by decide +kernel
theorem k24_2 {d x : Nat} {l1 : Option PV} {st : List PV} {M : Mem} {Q : Option PV → Mem → Prop} : WP d 24 2 [some (vr x), l1] (st) M Q = WP d 24 3 [some (vr x), l1] (vr x :: st) M Q := w1 mC_24 d24_2 rfl rfl
theorem d24_3 : decode cX4_hasGirl 3 = .ok (.getfield 37, 3) := by decide +kernel
theorem k24_3 {d : Nat} {l0 l1 : Option PV} {st : List PV} {M : Mem} {Q : Option PV → Mem → Prop} {r : Nat} (hk : mK M r = 4) : WP d 24 3 [l0, l1] (vr r :: st) M Q = WP d 24 6 [l0, l1] (vi (mI M r 7) :: st) M Q := w_get mC_24 d24_3 fE_4_37 rfl (by rw [hk]; rfl)
theorem d24_6 : decode cX4_hasGirl 6 = .ok (.iconst 1, 1) := by decide +kernel
theorem k24_6 {d : Nat} {l0 l1 : Option PV} {st : List PV} {M : Mem} {Q : Option PV → Mem → Prop} : WP d 24 6 [l0, l1] (st) M Q = WP d 24 7 [l0, l1] (vi 1 :: st) M Q := w_iconst mC_24 d24_6 (by decide)
theorem d24_7 : decode cX4_hasGirl 7 = .ok (.isub, 1) := by decide +kernel
theorem k24_7 {d : Nat} {l0 l1 : Option PV} {st : List PV} {M : Mem} {Q : Option PV → Mem → Prop} {x y : Int32} : WP d 24 7 [l0, l1] (vi y :: vi x :: st) M Q = WP d 24 8 [l0, l1] (vi (x - y) :: st) M Q := w1 mC_24 d24_7 rfl rfl
theorem d24_8 : decode cX4_hasGirl 8 = .ok (.invokestatic 40, 3) := by decide +kernel
theorem k24_8 {d : Nat} {l0 l1 : Option PV} {st : List PV} {M : Mem} {Q : Option PV → Mem → Prop} {a0 a1 a2 : Int32} (hl : szL st ≤ 8) : WP (d + 1) 24 8 [l0, l1] (vi a2 :: vi a1 :: vi a0 :: st) M Q = WP d 141 0 [some (vi a0), some (vi a1), some (vi a2)] [] M (fun v M' => WP (d + 1) 24 11 [l0, l1] (psh v st) M' Q) := w_callN mC_24 d24_8 rfl rfl rfl (Nat.le_of_ble_eq_true rfl) (by decide) rfl hl
theorem d24_11 : decode cX4_hasGirl 11 = .ok (.ireturn, 1) := by decide +kernel
theorem k24_11 {d : Nat} {l0 l1 : Option PV} {M : Mem} {Q : Option PV → Mem → Prop} {x : Int32} (hx : x = 0 ∨ x = 1) : WP d 24 11 [l0, l1] ([vi x]) M Q = Q (some (vi x)) M := w_zret mC_24 d24_11 rfl hx
theorem d25_0 : decode cX4_hasFrog 0 = .ok (.iload_n 1, 1) := by decide +kernel
theorem k25_0 {d : Nat} {x : Int32} {l0 : Option PV} {st : List PV} {M : Mem} {Q : Option PV → Mem → Prop} : WP d 25 0 [l0, some (vi x)] (st) M Q = WP d 25 1 [l0, some (vi x)] (vi x :: st) M Q := w1 mC_25 d25_0 rfl rfl
theorem d25_1 : decode cX4_hasFrog 1 = .ok (.iconst 0, 1) := by decide +kernel
theorem k25_1 {d : Nat} {l0 l1 : Option PV} {st : List PV} {M : Mem} {Q : Option PV → Mem → Prop} : WP d 25 1 [l0, l1] (st) M Q = WP d 25 2 [l0, l1] (vi 0 :: st) M Q := w_iconst mC_25 d25_1 (by decide)
theorem d25_2 : decode cX4_hasFrog 2 = .ok (.aload_n 0, 1) := by decide +kernel
theorem k25_2 {d x : Nat} {l1 : Option PV} {st : List PV} {M : Mem} {Q : Option PV → Mem → Prop} : WP d 25 2 [some (vr x), l1] (st) M Q = WP d 25 3 [some (vr x), l1] (vr x :: st) M Q := w1 mC_25 d25_2 rfl rfl
theorem d25_3 : decode cX4_hasFrog 3 = .ok (.getfield 44, 3) := by decide +kernel
theorem k25_3 {d : Nat} {l0 l1 : Option PV} {st : List PV} {M : Mem} {Q : Option PV → Mem → Prop} {r : Nat} (hk : mK M r = 4) : WP d 25 3 [l0, l1] (vr r :: st) M Q = WP d 25 6 [l0, l1] (vi (mI M r 8) :: st) M Q := w_get mC_25 d25_3 fE_4_44 rfl (by rw [hk]; rfl)
theorem d25_6 : decode cX4_hasFrog 6 = .ok (.iconst 1, 1) := by decide +kernel
theorem k25_6 {d : Nat} {l0 l1 : Option PV} {st : List PV} {M : Mem} {Q : Option PV → Mem → Prop} : WP d 25 6 [l0, l1] (st) M Q = WP d 25 7 [l0, l1] (vi 1 :: st) M Q := w_iconst mC_25 d25_6 (by decide)
theorem d25_7 : decode cX4_hasFrog 7 = .ok (.isub, 1) := by decide +kernel
theorem k25_7 {d : Nat} {l0 l1 : Option PV} {st : List PV} {M : Mem} {Q : Option PV → Mem → Prop} {x y : Int32} : WP d 25 7 [l0, l1] (vi y :: vi x :: st) M Q = WP d 25 8 [l0, l1] (vi (x - y) :: st) M Q := w1 mC_25 d25_7 rfl rfl
theorem d25_8 : decode cX4_hasFrog 8 = .ok (.invokestatic 40, 3) := by decide +kernel
theorem k25_8 {d : Nat} {l0 l1 : Option PV} {st : List PV} {M : Mem} {Q : Option PV → Mem → Prop} {a0 a1 a2 : Int32} (hl : szL st ≤ 8) : WP (d + 1) 25 8 [l0, l1] (vi a2 :: vi a1 :: vi a0 :: st) M Q = WP d 141 0 [some (vi a0), some (vi a1), some (vi a2)] [] M (fun v M' => WP (d + 1) 25 11 [l0, l1] (psh v st) M' Q) := w_callN mC_25 d25_8 rfl rfl rfl (Nat.le_of_ble_eq_true rfl) (by decide) rfl hl
theorem d25_11 : decode cX4_hasFrog 11 = .ok (.ireturn, 1) := by decide +kernel
theorem k25_11 {d : Nat} {l0 l1 : Option PV} {M : Mem} {Q : Option PV → Mem → Prop} {x : Int32} (hx : x = 0 ∨ x = 1) : WP d 25 11 [l0, l1] ([vi x]) M Q = Q (some (vi x)) M := w_zret mC_25 d25_11 rfl hx
theorem d26_0 : decode cX4_addGirl 0 = .ok (.aload_n 0, 1) := by decide +kernel
theorem k26_0 {d x : Nat} {l1 : Option PV} {st : List PV} {M : Mem} {Q : Option PV → Mem → Prop} : WP d 26 0 [some (vr x), l1] (st) M Q = WP d 26 1 [some (vr x), l1] (vr x :: st) M Q := w1 mC_26 d26_0 rfl rfl
theorem d26_1 : decode cX4_addGirl 1 = .ok (.getfield 37, 3) := by decide +kernel
theorem k26_1 {d : Nat} {l0 l1 : Option PV} {st : List PV} {M : Mem} {Q : Option PV → Mem → Prop} {r : Nat} (hk : mK M r = 4) : WP d 26 1 [l0, l1] (vr r :: st) M Q = WP d 26 4 [l0, l1] (vi (mI M r 7) :: st) M Q := w_get mC_26 d26_1 fE_4_37 rfl (by rw [hk]; rfl)
theorem d26_4 : decode cX4_addGirl 4 = .ok (.bipush 8, 2) := by decide +kernel
theorem k26_4 {d : Nat} {l0 l1 : Option PV} {st : List PV} {M : Mem} {Q : Option PV → Mem → Prop} : WP d 26 4 [l0, l1] (st) M Q = WP d 26 6 [l0, l1] (vi 8 :: st) M Q := w_bipush mC_26 d26_4 (by decide)
theorem d26_6 : decode cX4_addGirl 6 = .ok (.if_icmp .lt 6, 3) := by decide +kernel
theorem k26_6 {d : Nat} {l0 l1 : Option PV} {st : List PV} {M : Mem} {Q : Option PV → Mem → Prop} {x y : Int32} : WP d 26 6 [l0, l1] (vi y :: vi x :: st) M Q = (if x < y then WP d 26 12 [l0, l1] (st) M Q else WP d 26 9 [l0, l1] (st) M Q) := w_ic_lt mC_26 d26_6 (by decide)
theorem d26_9 : decode cX4_addGirl 9 = .ok (.bipush (-3), 2) := by decide +kernel
theorem k26_9 {d : Nat} {l0 l1 : Option PV} {st : List PV} {M : Mem} {Q : Option PV → Mem → Prop} : WP d 26 9 [l0, l1] (st) M Q = WP d 26 11 [l0, l1] (vi (-3) :: st) M Q := w_bipush mC_26 d26_9 (by decide)
theorem d26_11 : decode cX4_addGirl 11 = .ok (.ireturn, 1) := by decide +kernel
theorem k26_11 {d : Nat} {l0 l1 : Option PV} {M : Mem} {Q : Option PV → Mem → Prop} {x : Int32} : WP d 26 11 [l0, l1] ([vi x]) M Q = Q (some (vi x)) M := w_iret mC_26 d26_11 rfl
theorem d26_12 : decode cX4_addGirl 12 = .ok (.aload_n 0, 1) := by decide +kernel
theorem k26_12 {d x : Nat} {l1 : Option PV} {st : List PV} {M : Mem} {Q : Option PV → Mem → Prop} : WP d 26 12 [some (vr x), l1] (st) M Q = WP d 26 13 [some (vr x), l1] (vr x :: st) M Q := w1 mC_26 d26_12 rfl rfl
theorem d26_13 : decode cX4_addGirl 13 = .ok (.getfield 9, 3) := by decide +kernel
theorem k26_13 {d : Nat} {l0 l1 : Option PV} {st : List PV} {M : Mem} {Q : Option PV → Mem → Prop} {r : Nat} (hk : mK M r = 4) : WP d 26 13 [l0, l1] (vr r :: st) M Q = WP d 26 16 [l0, l1] (vr (mR M r 0) :: st) M Q := w_getr mC_26 d26_13 fE_4_9 rfl (by rw [hk]; rfl)
theorem d26_16 : decode cX4_addGirl 16 = .ok (.aload_n 0, 1) := by decide +kernel
theorem k26_16 {d x : Nat} {l1 : Option PV} {st : List PV} {M : Mem} {Q : Option PV → Mem → Prop} : WP d 26 16 [some (vr x), l1] (st) M Q = WP d 26 17 [some (vr x), l1] (vr x :: st) M Q := w1 mC_26 d26_16 rfl rfl
theorem d26_17 : decode cX4_addGirl 17 = .ok (.getfield 37, 3) := by decide +kernel
theorem k26_17 {d : Nat} {l0 l1 : Option PV} {st : List PV} {M : Mem} {Q : Option PV → Mem → Prop} {r : Nat} (hk : mK M r = 4) : WP d 26 17 [l0, l1] (vr r :: st) M Q = WP d 26 20 [l0, l1] (vi (mI M r 7) :: st) M Q := w_get mC_26 d26_17 fE_4_37 rfl (by rw [hk]; rfl)
theorem d26_20 : decode cX4_addGirl 20 = .ok (.iload_n 1, 1) := by decide +kernel
theorem k26_20 {d : Nat} {x : Int32} {l0 : Option PV} {st : List PV} {M : Mem} {Q : Option PV → Mem → Prop} : WP d 26 20 [l0, some (vi x)] (st) M Q = WP d 26 21 [l0, some (vi x)] (vi x :: st) M Q := w1 mC_26 d26_20 rfl rfl
theorem d26_21 : decode cX4_addGirl 21 = .ok (.iastore, 1) := by decide +kernel
theorem k26_21 {d : Nat} {l0 l1 : Option PV} {st : List PV} {M : Mem} {Q : Option PV → Mem → Prop} {r : Nat} {j x : Int32} (hk : mK M r = 13) (hj : inb j (mN M r)) (h1 : r ≠ 1) : WP d 26 21 [l0, l1] (vi x :: vi j :: vr r :: st) M Q = WP d 26 22 [l0, l1] (st) (sI M r (ix j) x) Q := w_iast mC_26 d26_21 hk hj h1
theorem d26_22 : decode cX4_addGirl 22 = .ok (.aload_n 0, 1) := by decide +kernel
theorem k26_22 {d x : Nat} {l1 : Option PV} {st : List PV} {M : Mem} {Q : Option PV → Mem → Prop} : WP d 26 22 [some (vr x), l1] (st) M Q = WP d 26 23 [some (vr x), l1] (vr x :: st) M Q := w1 mC_26 d26_22 rfl rfl
theorem d26_23 : decode cX4_addGirl 23 = .ok (.getfield 15, 3) := by decide +kernel
theorem k26_23 {d : Nat} {l0 l1 : Option PV} {st : List PV} {M : Mem} {Q : Option PV → Mem → Prop} {r : Nat} (hk : mK M r = 4) : WP d 26 23 [l0, l1] (vr r :: st) M Q = WP d 26 26 [l0, l1] (vr (mR M r 1) :: st) M Q := w_getr mC_26 d26_23 fE_4_15 rfl (by rw [hk]; rfl)
theorem d26_26 : decode cX4_addGirl 26 = .ok (.aload_n 0, 1) := by decide +kernel
theorem k26_26 {d x : Nat} {l1 : Option PV} {st : List PV} {M : Mem} {Q : Option PV → Mem → Prop} : WP d 26 26 [some (vr x), l1] (st) M Q = WP d 26 27 [some (vr x), l1] (vr x :: st) M Q := w1 mC_26 d26_26 rfl rfl
theorem d26_27 : decode cX4_addGirl 27 = .ok (.getfield 37, 3) := by decide +kernel
theorem k26_27 {d : Nat} {l0 l1 : Option PV} {st : List PV} {M : Mem} {Q : Option PV → Mem → Prop} {r : Nat} (hk : mK M r = 4) : WP d 26 27 [l0, l1] (vr r :: st) M Q = WP d 26 30 [l0, l1] (vi (mI M r 7) :: st) M Q := w_get mC_26 d26_27 fE_4_37 rfl (by rw [hk]; rfl)
theorem d26_30 : decode cX4_addGirl 30 = .ok (.bipush 60, 2) := by decide +kernel
theorem k26_30 {d : Nat} {l0 l1 : Option PV} {st : List PV} {M : Mem} {Q : Option PV → Mem → Prop} : WP d 26 30 [l0, l1] (st) M Q = WP d 26 32 [l0, l1] (vi 60 :: st) M Q := w_bipush mC_26 d26_30 (by decide)
theorem d26_32 : decode cX4_addGirl 32 = .ok (.iastore, 1) := by decide +kernel
theorem k26_32 {d : Nat} {l0 l1 : Option PV} {st : List PV} {M : Mem} {Q : Option PV → Mem → Prop} {r : Nat} {j x : Int32} (hk : mK M r = 13) (hj : inb j (mN M r)) (h1 : r ≠ 1) : WP d 26 32 [l0, l1] (vi x :: vi j :: vr r :: st) M Q = WP d 26 33 [l0, l1] (st) (sI M r (ix j) x) Q := w_iast mC_26 d26_32 hk hj h1
theorem d26_33 : decode cX4_addGirl 33 = .ok (.aload_n 0, 1) := by decide +kernel
theorem k26_33 {d x : Nat} {l1 : Option PV} {st : List PV} {M : Mem} {Q : Option PV → Mem → Prop} : WP d 26 33 [some (vr x), l1] (st) M Q = WP d 26 34 [some (vr x), l1] (vr x :: st) M Q := w1 mC_26 d26_33 rfl rfl
theorem d26_34 : decode cX4_addGirl 34 = .ok (.dup, 1) := by decide +kernel
theorem k26_34 {d : Nat} {l0 l1 : Option PV} {st : List PV} {M : Mem} {Q : Option PV → Mem → Prop} {x : Nat} : WP d 26 34 [l0, l1] (vr x :: st) M Q = WP d 26 35 [l0, l1] (vr x :: vr x :: st) M Q := w1 mC_26 d26_34 rfl rfl
theorem k26_34i {d : Nat} {l0 l1 : Option PV} {st : List PV} {M : Mem} {Q : Option PV → Mem → Prop} {x : Int32} : WP d 26 34 [l0, l1] (vi x :: st) M Q = WP d 26 35 [l0, l1] (vi x :: vi x :: st) M Q := w1 mC_26 d26_34 rfl rfl
theorem d26_35 : decode cX4_addGirl 35 = .ok (.getfield 37, 3) := by decide +kernel
theorem k26_35 {d : Nat} {l0 l1 : Option PV} {st : List PV} {M : Mem} {Q : Option PV → Mem → Prop} {r : Nat} (hk : mK M r = 4) : WP d 26 35 [l0, l1] (vr r :: st) M Q = WP d 26 38 [l0, l1] (vi (mI M r 7) :: st) M Q := w_get mC_26 d26_35 fE_4_37 rfl (by rw [hk]; rfl)
theorem d26_38 : decode cX4_addGirl 38 = .ok (.iconst 1, 1) := by decide +kernel
theorem k26_38 {d : Nat} {l0 l1 : Option PV} {st : List PV} {M : Mem} {Q : Option PV → Mem → Prop} : WP d 26 38 [l0, l1] (st) M Q = WP d 26 39 [l0, l1] (vi 1 :: st) M Q := w_iconst mC_26 d26_38 (by decide)
theorem d26_39 : decode cX4_addGirl 39 = .ok (.iadd, 1) := by decide +kernel
theorem k26_39 {d : Nat} {l0 l1 : Option PV} {st : List PV} {M : Mem} {Q : Option PV → Mem → Prop} {x y : Int32} : WP d 26 39 [l0, l1] (vi y :: vi x :: st) M Q = WP d 26 40 [l0, l1] (vi (x + y) :: st) M Q := w1 mC_26 d26_39 rfl rfl
theorem d26_40 : decode cX4_addGirl 40 = .ok (.putfield 37, 3) := by decide +kernel
theorem k26_40 {d : Nat} {l0 l1 : Option PV} {st : List PV} {M : Mem} {Q : Option PV → Mem → Prop} {r : Nat} {x : Int32} (hk : mK M r = 4) : WP d 26 40 [l0, l1] (vi x :: vr r :: st) M Q = WP d 26 43 [l0, l1] (st) (sI M r 7 x) Q := w_put mC_26 d26_40 fE_4_37 (by decide +kernel) (by rw [hk]; rfl)
theorem d26_43 : decode cX4_addGirl 43 = .ok (.aload_n 0, 1) := by decide +kernel
theorem k26_43 {d x : Nat} {l1 : Option PV} {st : List PV} {M : Mem} {Q : Option PV → Mem → Prop} : WP d 26 43 [some (vr x), l1] (st) M Q = WP d 26 44 [some (vr x), l1] (vr x :: st) M Q := w1 mC_26 d26_43 rfl rfl
theorem d26_44 : decode cX4_addGirl 44 = .ok (.getfield 37, 3) := by decide +kernel
theorem k26_44 {d : Nat} {l0 l1 : Option PV} {st : List PV} {M : Mem} {Q : Option PV → Mem → Prop} {r : Nat} (hk : mK M r = 4) : WP d 26 44 [l0, l1] (vr r :: st) M Q = WP d 26 47 [l0, l1] (vi (mI M r 7) :: st) M Q := w_get mC_26 d26_44 fE_4_37 rfl (by rw [hk]; rfl)
theorem d26_47 : decode cX4_addGirl 47 = .ok (.iconst 1, 1) := by decide +kernel
theorem k26_47 {d : Nat} {l0 l1 : Option PV} {st : List PV} {M : Mem} {Q : Option PV → Mem → Prop} : WP d 26 47 [l0, l1] (st) M Q = WP d 26 48 [l0, l1] (vi 1 :: st) M Q := w_iconst mC_26 d26_47 (by decide)
theorem d26_48 : decode cX4_addGirl 48 = .ok (.isub, 1) := by decide +kernel
theorem k26_48 {d : Nat} {l0 l1 : Option PV} {st : List PV} {M : Mem} {Q : Option PV → Mem → Prop} {x y : Int32} : WP d 26 48 [l0, l1] (vi y :: vi x :: st) M Q = WP d 26 49 [l0, l1] (vi (x - y) :: st) M Q := w1 mC_26 d26_48 rfl rfl
theorem d26_49 : decode cX4_addGirl 49 = .ok (.ireturn, 1) := by decide +kernel
theorem k26_49 {d : Nat} {l0 l1 : Option PV} {M : Mem} {Q : Option PV → Mem → Prop} {x : Int32} : WP d 26 49 [l0, l1] ([vi x]) M Q = Q (some (vi x)) M := w_iret mC_26 d26_49 rfl
theorem d27_0 : decode cX4_addFrog 0 = .ok (.aload_n 0, 1) := by decide +kernel
theorem k27_0 {d x : Nat} {l1 l2 l3 l4 : Option PV} {st : List PV} {M : Mem} {Q : Option PV → Mem → Prop} : WP d 27 0 [some (vr x), l1, l2, l3, l4] (st) M Q = WP d 27 1 [some (vr x), l1, l2, l3, l4] (vr x :: st) M Q := w1 mC_27 d27_0 rfl rfl
theorem d27_1 : decode cX4_addFrog 1 = .ok (.getfield 44, 3) := by decide +kernel
theorem k27_1 {d : Nat} {l0 l1 l2 l3 l4 : Option PV} {st : List PV} {M : Mem} {Q : Option PV → Mem → Prop} {r : Nat} (hk : mK M r = 4) : WP d 27 1 [l0, l1, l2, l3, l4] (vr r :: st) M Q = WP d 27 4 [l0, l1, l2, l3, l4] (vi (mI M r 8) :: st) M Q := w_get mC_27 d27_1 fE_4_44 rfl (by rw [hk]; rfl)
theorem d27_4 : decode cX4_addFrog 4 = .ok (.bipush 8, 2) := by decide +kernel
theorem k27_4 {d : Nat} {l0 l1 l2 l3 l4 : Option PV} {st : List PV} {M : Mem} {Q : Option PV → Mem → Prop} : WP d 27 4 [l0, l1, l2, l3, l4] (st) M Q = WP d 27 6 [l0, l1, l2, l3, l4] (vi 8 :: st) M Q := w_bipush mC_27 d27_4 (by decide)
theorem d27_6 : decode cX4_addFrog 6 = .ok (.if_icmp .lt 6, 3) := by decide +kernel
theorem k27_6 {d : Nat} {l0 l1 l2 l3 l4 : Option PV} {st : List PV} {M : Mem} {Q : Option PV → Mem → Prop} {x y : Int32} : WP d 27 6 [l0, l1, l2, l3, l4] (vi y :: vi x :: st) M Q = (if x < y then WP d 27 12 [l0, l1, l2, l3, l4] (st) M Q else WP d 27 9 [l0, l1, l2, l3, l4] (st) M Q) := w_ic_lt mC_27 d27_6 (by decide)
theorem d27_9 : decode cX4_addFrog 9 = .ok (.bipush (-3), 2) := by decide +kernel
theorem k27_9 {d : Nat} {l0 l1 l2 l3 l4 : Option PV} {st : List PV} {M : Mem} {Q : Option PV → Mem → Prop} : WP d 27 9 [l0, l1, l2, l3, l4] (st) M Q = WP d 27 11 [l0, l1, l2, l3, l4] (vi (-3) :: st) M Q := w_bipush mC_27 d27_9 (by decide)
theorem d27_11 : decode cX4_addFrog 11 = .ok (.ireturn, 1) := by decide +kernel
theorem k27_11 {d : Nat} {l0 l1 l2 l3 l4 : Option PV} {M : Mem} {Q : Option PV → Mem → Prop} {x : Int32} : WP d 27 11 [l0, l1, l2, l3, l4] ([vi x]) M Q = Q (some (vi x)) M := w_iret mC_27 d27_11 rfl
theorem d27_12 : decode cX4_addFrog 12 = .ok (.aload_n 0, 1) := by decide +kernel
theorem k27_12 {d x : Nat} {l1 l2 l3 l4 : Option PV} {st : List PV} {M : Mem} {Q : Option PV → Mem → Prop} : WP d 27 12 [some (vr x), l1, l2, l3, l4] (st) M Q = WP d 27 13 [some (vr x), l1, l2, l3, l4] (vr x :: st) M Q := w1 mC_27 d27_12 rfl rfl
theorem d27_13 : decode cX4_addFrog 13 = .ok (.getfield 18, 3) := by decide +kernel
theorem k27_13 {d : Nat} {l0 l1 l2 l3 l4 : Option PV} {st : List PV} {M : Mem} {Q : Option PV → Mem → Prop} {r : Nat} (hk : mK M r = 4) : WP d 27 13 [l0, l1, l2, l3, l4] (vr r :: st) M Q = WP d 27 16 [l0, l1, l2, l3, l4] (vr (mR M r 2) :: st) M Q := w_getr mC_27 d27_13 fE_4_18 rfl (by rw [hk]; rfl)
theorem d27_16 : decode cX4_addFrog 16 = .ok (.aload_n 0, 1) := by decide +kernel
theorem k27_16 {d x : Nat} {l1 l2 l3 l4 : Option PV} {st : List PV} {M : Mem} {Q : Option PV → Mem → Prop} : WP d 27 16 [some (vr x), l1, l2, l3, l4] (st) M Q = WP d 27 17 [some (vr x), l1, l2, l3, l4] (vr x :: st) M Q := w1 mC_27 d27_16 rfl rfl
theorem d27_17 : decode cX4_addFrog 17 = .ok (.getfield 44, 3) := by decide +kernel
theorem k27_17 {d : Nat} {l0 l1 l2 l3 l4 : Option PV} {st : List PV} {M : Mem} {Q : Option PV → Mem → Prop} {r : Nat} (hk : mK M r = 4) : WP d 27 17 [l0, l1, l2, l3, l4] (vr r :: st) M Q = WP d 27 20 [l0, l1, l2, l3, l4] (vi (mI M r 8) :: st) M Q := w_get mC_27 d27_17 fE_4_44 rfl (by rw [hk]; rfl)
theorem d27_20 : decode cX4_addFrog 20 = .ok (.iload_n 1, 1) := by decide +kernel
theorem k27_20 {d : Nat} {x : Int32} {l0 l2 l3 l4 : Option PV} {st : List PV} {M : Mem} {Q : Option PV → Mem → Prop} : WP d 27 20 [l0, some (vi x), l2, l3, l4] (st) M Q = WP d 27 21 [l0, some (vi x), l2, l3, l4] (vi x :: st) M Q := w1 mC_27 d27_20 rfl rfl
theorem d27_21 : decode cX4_addFrog 21 = .ok (.iastore, 1) := by decide +kernel
theorem k27_21 {d : Nat} {l0 l1 l2 l3 l4 : Option PV} {st : List PV} {M : Mem} {Q : Option PV → Mem → Prop} {r : Nat} {j x : Int32} (hk : mK M r = 13) (hj : inb j (mN M r)) (h1 : r ≠ 1) : WP d 27 21 [l0, l1, l2, l3, l4] (vi x :: vi j :: vr r :: st) M Q = WP d 27 22 [l0, l1, l2, l3, l4] (st) (sI M r (ix j) x) Q := w_iast mC_27 d27_21 hk hj h1
theorem d27_22 : decode cX4_addFrog 22 = .ok (.aload_n 0, 1) := by decide +kernel
theorem k27_22 {d x : Nat} {l1 l2 l3 l4 : Option PV} {st : List PV} {M : Mem} {Q : Option PV → Mem → Prop} : WP d 27 22 [some (vr x), l1, l2, l3, l4] (st) M Q = WP d 27 23 [some (vr x), l1, l2, l3, l4] (vr x :: st) M Q := w1 mC_27 d27_22 rfl rfl
theorem d27_23 : decode cX4_addFrog 23 = .ok (.getfield 21, 3) := by decide +kernel
theorem k27_23 {d : Nat} {l0 l1 l2 l3 l4 : Option PV} {st : List PV} {M : Mem} {Q : Option PV → Mem → Prop} {r : Nat} (hk : mK M r = 4) : WP d 27 23 [l0, l1, l2, l3, l4] (vr r :: st) M Q = WP d 27 26 [l0, l1, l2, l3, l4] (vr (mR M r 3) :: st) M Q := w_getr mC_27 d27_23 fE_4_21 rfl (by rw [hk]; rfl)
theorem d27_26 : decode cX4_addFrog 26 = .ok (.aload_n 0, 1) := by decide +kernel
theorem k27_26 {d x : Nat} {l1 l2 l3 l4 : Option PV} {st : List PV} {M : Mem} {Q : Option PV → Mem → Prop} : WP d 27 26 [some (vr x), l1, l2, l3, l4] (st) M Q = WP d 27 27 [some (vr x), l1, l2, l3, l4] (vr x :: st) M Q := w1 mC_27 d27_26 rfl rfl
theorem d27_27 : decode cX4_addFrog 27 = .ok (.getfield 44, 3) := by decide +kernel
theorem k27_27 {d : Nat} {l0 l1 l2 l3 l4 : Option PV} {st : List PV} {M : Mem} {Q : Option PV → Mem → Prop} {r : Nat} (hk : mK M r = 4) : WP d 27 27 [l0, l1, l2, l3, l4] (vr r :: st) M Q = WP d 27 30 [l0, l1, l2, l3, l4] (vi (mI M r 8) :: st) M Q := w_get mC_27 d27_27 fE_4_44 rfl (by rw [hk]; rfl)
theorem d27_30 : decode cX4_addFrog 30 = .ok (.iload_n 2, 1) := by decide +kernel
theorem k27_30 {d : Nat} {x : Int32} {l0 l1 l3 l4 : Option PV} {st : List PV} {M : Mem} {Q : Option PV → Mem → Prop} : WP d 27 30 [l0, l1, some (vi x), l3, l4] (st) M Q = WP d 27 31 [l0, l1, some (vi x), l3, l4] (vi x :: st) M Q := w1 mC_27 d27_30 rfl rfl
theorem d27_31 : decode cX4_addFrog 31 = .ok (.iastore, 1) := by decide +kernel
theorem k27_31 {d : Nat} {l0 l1 l2 l3 l4 : Option PV} {st : List PV} {M : Mem} {Q : Option PV → Mem → Prop} {r : Nat} {j x : Int32} (hk : mK M r = 13) (hj : inb j (mN M r)) (h1 : r ≠ 1) : WP d 27 31 [l0, l1, l2, l3, l4] (vi x :: vi j :: vr r :: st) M Q = WP d 27 32 [l0, l1, l2, l3, l4] (st) (sI M r (ix j) x) Q := w_iast mC_27 d27_31 hk hj h1
theorem d27_32 : decode cX4_addFrog 32 = .ok (.aload_n 0, 1) := by decide +kernel
theorem k27_32 {d x : Nat} {l1 l2 l3 l4 : Option PV} {st : List PV} {M : Mem} {Q : Option PV → Mem → Prop} : WP d 27 32 [some (vr x), l1, l2, l3, l4] (st) M Q = WP d 27 33 [some (vr x), l1, l2, l3, l4] (vr x :: st) M Q := w1 mC_27 d27_32 rfl rfl
theorem d27_33 : decode cX4_addFrog 33 = .ok (.getfield 24, 3) := by decide +kernel
theorem k27_33 {d : Nat} {l0 l1 l2 l3 l4 : Option PV} {st : List PV} {M : Mem} {Q : Option PV → Mem → Prop} {r : Nat} (hk : mK M r = 4) : WP d 27 33 [l0, l1, l2, l3, l4] (vr r :: st) M Q = WP d 27 36 [l0, l1, l2, l3, l4] (vr (mR M r 4) :: st) M Q := w_getr mC_27 d27_33 fE_4_24 rfl (by rw [hk]; rfl)
theorem d27_36 : decode cX4_addFrog 36 = .ok (.aload_n 0, 1) := by decide +kernel
theorem k27_36 {d x : Nat} {l1 l2 l3 l4 : Option PV} {st : List PV} {M : Mem} {Q : Option PV → Mem → Prop} : WP d 27 36 [some (vr x), l1, l2, l3, l4] (st) M Q = WP d 27 37 [some (vr x), l1, l2, l3, l4] (vr x :: st) M Q := w1 mC_27 d27_36 rfl rfl
theorem d27_37 : decode cX4_addFrog 37 = .ok (.getfield 44, 3) := by decide +kernel
theorem k27_37 {d : Nat} {l0 l1 l2 l3 l4 : Option PV} {st : List PV} {M : Mem} {Q : Option PV → Mem → Prop} {r : Nat} (hk : mK M r = 4) : WP d 27 37 [l0, l1, l2, l3, l4] (vr r :: st) M Q = WP d 27 40 [l0, l1, l2, l3, l4] (vi (mI M r 8) :: st) M Q := w_get mC_27 d27_37 fE_4_44 rfl (by rw [hk]; rfl)
theorem d27_40 : decode cX4_addFrog 40 = .ok (.iload_n 3, 1) := by decide +kernel
theorem k27_40 {d : Nat} {x : Int32} {l0 l1 l2 l4 : Option PV} {st : List PV} {M : Mem} {Q : Option PV → Mem → Prop} : WP d 27 40 [l0, l1, l2, some (vi x), l4] (st) M Q = WP d 27 41 [l0, l1, l2, some (vi x), l4] (vi x :: st) M Q := w1 mC_27 d27_40 rfl rfl
theorem d27_41 : decode cX4_addFrog 41 = .ok (.iastore, 1) := by decide +kernel
theorem k27_41 {d : Nat} {l0 l1 l2 l3 l4 : Option PV} {st : List PV} {M : Mem} {Q : Option PV → Mem → Prop} {r : Nat} {j x : Int32} (hk : mK M r = 13) (hj : inb j (mN M r)) (h1 : r ≠ 1) : WP d 27 41 [l0, l1, l2, l3, l4] (vi x :: vi j :: vr r :: st) M Q = WP d 27 42 [l0, l1, l2, l3, l4] (st) (sI M r (ix j) x) Q := w_iast mC_27 d27_41 hk hj h1
theorem d27_42 : decode cX4_addFrog 42 = .ok (.aload_n 0, 1) := by decide +kernel
theorem k27_42 {d x : Nat} {l1 l2 l3 l4 : Option PV} {st : List PV} {M : Mem} {Q : Option PV → Mem → Prop} : WP d 27 42 [some (vr x), l1, l2, l3, l4] (st) M Q = WP d 27 43 [some (vr x), l1, l2, l3, l4] (vr x :: st) M Q := w1 mC_27 d27_42 rfl rfl
theorem d27_43 : decode cX4_addFrog 43 = .ok (.getfield 27, 3) := by decide +kernel
theorem k27_43 {d : Nat} {l0 l1 l2 l3 l4 : Option PV} {st : List PV} {M : Mem} {Q : Option PV → Mem → Prop} {r : Nat} (hk : mK M r = 4) : WP d 27 43 [l0, l1, l2, l3, l4] (vr r :: st) M Q = WP d 27 46 [l0, l1, l2, l3, l4] (vr (mR M r 5) :: st) M Q := w_getr mC_27 d27_43 fE_4_27 rfl (by rw [hk]; rfl)
theorem d27_46 : decode cX4_addFrog 46 = .ok (.aload_n 0, 1) := by decide +kernel
theorem k27_46 {d x : Nat} {l1 l2 l3 l4 : Option PV} {st : List PV} {M : Mem} {Q : Option PV → Mem → Prop} : WP d 27 46 [some (vr x), l1, l2, l3, l4] (st) M Q = WP d 27 47 [some (vr x), l1, l2, l3, l4] (vr x :: st) M Q := w1 mC_27 d27_46 rfl rfl
theorem d27_47 : decode cX4_addFrog 47 = .ok (.getfield 44, 3) := by decide +kernel
theorem k27_47 {d : Nat} {l0 l1 l2 l3 l4 : Option PV} {st : List PV} {M : Mem} {Q : Option PV → Mem → Prop} {r : Nat} (hk : mK M r = 4) : WP d 27 47 [l0, l1, l2, l3, l4] (vr r :: st) M Q = WP d 27 50 [l0, l1, l2, l3, l4] (vi (mI M r 8) :: st) M Q := w_get mC_27 d27_47 fE_4_44 rfl (by rw [hk]; rfl)
theorem d27_50 : decode cX4_addFrog 50 = .ok (.iload 4, 2) := by decide +kernel
theorem k27_50 {d : Nat} {x : Int32} {l0 l1 l2 l3 : Option PV} {st : List PV} {M : Mem} {Q : Option PV → Mem → Prop} : WP d 27 50 [l0, l1, l2, l3, some (vi x)] (st) M Q = WP d 27 52 [l0, l1, l2, l3, some (vi x)] (vi x :: st) M Q := w1 mC_27 d27_50 rfl rfl
theorem d27_52 : decode cX4_addFrog 52 = .ok (.iastore, 1) := by decide +kernel
theorem k27_52 {d : Nat} {l0 l1 l2 l3 l4 : Option PV} {st : List PV} {M : Mem} {Q : Option PV → Mem → Prop} {r : Nat} {j x : Int32} (hk : mK M r = 13) (hj : inb j (mN M r)) (h1 : r ≠ 1) : WP d 27 52 [l0, l1, l2, l3, l4] (vi x :: vi j :: vr r :: st) M Q = WP d 27 53 [l0, l1, l2, l3, l4] (st) (sI M r (ix j) x) Q := w_iast mC_27 d27_52 hk hj h1
theorem d27_53 : decode cX4_addFrog 53 = .ok (.aload_n 0, 1) := by decide +kernel
theorem k27_53 {d x : Nat} {l1 l2 l3 l4 : Option PV} {st : List PV} {M : Mem} {Q : Option PV → Mem → Prop} : WP d 27 53 [some (vr x), l1, l2, l3, l4] (st) M Q = WP d 27 54 [some (vr x), l1, l2, l3, l4] (vr x :: st) M Q := w1 mC_27 d27_53 rfl rfl
theorem d27_54 : decode cX4_addFrog 54 = .ok (.dup, 1) := by decide +kernel
theorem k27_54 {d : Nat} {l0 l1 l2 l3 l4 : Option PV} {st : List PV} {M : Mem} {Q : Option PV → Mem → Prop} {x : Nat} : WP d 27 54 [l0, l1, l2, l3, l4] (vr x :: st) M Q = WP d 27 55 [l0, l1, l2, l3, l4] (vr x :: vr x :: st) M Q := w1 mC_27 d27_54 rfl rfl
theorem k27_54i {d : Nat} {l0 l1 l2 l3 l4 : Option PV} {st : List PV} {M : Mem} {Q : Option PV → Mem → Prop} {x : Int32} : WP d 27 54 [l0, l1, l2, l3, l4] (vi x :: st) M Q = WP d 27 55 [l0, l1, l2, l3, l4] (vi x :: vi x :: st) M Q := w1 mC_27 d27_54 rfl rfl
theorem d27_55 : decode cX4_addFrog 55 = .ok (.getfield 44, 3) := by decide +kernel
theorem k27_55 {d : Nat} {l0 l1 l2 l3 l4 : Option PV} {st : List PV} {M : Mem} {Q : Option PV → Mem → Prop} {r : Nat} (hk : mK M r = 4) : WP d 27 55 [l0, l1, l2, l3, l4] (vr r :: st) M Q = WP d 27 58 [l0, l1, l2, l3, l4] (vi (mI M r 8) :: st) M Q := w_get mC_27 d27_55 fE_4_44 rfl (by rw [hk]; rfl)
theorem d27_58 : decode cX4_addFrog 58 = .ok (.iconst 1, 1) := by decide +kernel
theorem k27_58 {d : Nat} {l0 l1 l2 l3 l4 : Option PV} {st : List PV} {M : Mem} {Q : Option PV → Mem → Prop} : WP d 27 58 [l0, l1, l2, l3, l4] (st) M Q = WP d 27 59 [l0, l1, l2, l3, l4] (vi 1 :: st) M Q := w_iconst mC_27 d27_58 (by decide)
theorem d27_59 : decode cX4_addFrog 59 = .ok (.iadd, 1) := by decide +kernel
theorem k27_59 {d : Nat} {l0 l1 l2 l3 l4 : Option PV} {st : List PV} {M : Mem} {Q : Option PV → Mem → Prop} {x y : Int32} : WP d 27 59 [l0, l1, l2, l3, l4] (vi y :: vi x :: st) M Q = WP d 27 60 [l0, l1, l2, l3, l4] (vi (x + y) :: st) M Q := w1 mC_27 d27_59 rfl rfl
theorem d27_60 : decode cX4_addFrog 60 = .ok (.putfield 44, 3) := by decide +kernel
theorem k27_60 {d : Nat} {l0 l1 l2 l3 l4 : Option PV} {st : List PV} {M : Mem} {Q : Option PV → Mem → Prop} {r : Nat} {x : Int32} (hk : mK M r = 4) : WP d 27 60 [l0, l1, l2, l3, l4] (vi x :: vr r :: st) M Q = WP d 27 63 [l0, l1, l2, l3, l4] (st) (sI M r 8 x) Q := w_put mC_27 d27_60 fE_4_44 (by decide +kernel) (by rw [hk]; rfl)
theorem d27_63 : decode cX4_addFrog 63 = .ok (.aload_n 0, 1) := by decide +kernel
theorem k27_63 {d x : Nat} {l1 l2 l3 l4 : Option PV} {st : List PV} {M : Mem} {Q : Option PV → Mem → Prop} : WP d 27 63 [some (vr x), l1, l2, l3, l4] (st) M Q = WP d 27 64 [some (vr x), l1, l2, l3, l4] (vr x :: st) M Q := w1 mC_27 d27_63 rfl rfl
theorem d27_64 : decode cX4_addFrog 64 = .ok (.getfield 44, 3) := by decide +kernel
theorem k27_64 {d : Nat} {l0 l1 l2 l3 l4 : Option PV} {st : List PV} {M : Mem} {Q : Option PV → Mem → Prop} {r : Nat} (hk : mK M r = 4) : WP d 27 64 [l0, l1, l2, l3, l4] (vr r :: st) M Q = WP d 27 67 [l0, l1, l2, l3, l4] (vi (mI M r 8) :: st) M Q := w_get mC_27 d27_64 fE_4_44 rfl (by rw [hk]; rfl)
theorem d27_67 : decode cX4_addFrog 67 = .ok (.iconst 1, 1) := by decide +kernel
theorem k27_67 {d : Nat} {l0 l1 l2 l3 l4 : Option PV} {st : List PV} {M : Mem} {Q : Option PV → Mem → Prop} : WP d 27 67 [l0, l1, l2, l3, l4] (st) M Q = WP d 27 68 [l0, l1, l2, l3, l4] (vi 1 :: st) M Q := w_iconst mC_27 d27_67 (by decide)
theorem d27_68 : decode cX4_addFrog 68 = .ok (.isub, 1) := by decide +kernel
theorem k27_68 {d : Nat} {l0 l1 l2 l3 l4 : Option PV} {st : List PV} {M : Mem} {Q : Option PV → Mem → Prop} {x y : Int32} : WP d 27 68 [l0, l1, l2, l3, l4] (vi y :: vi x :: st) M Q = WP d 27 69 [l0, l1, l2, l3, l4] (vi (x - y) :: st) M Q := w1 mC_27 d27_68 rfl rfl
theorem d27_69 : decode cX4_addFrog 69 = .ok (.ireturn, 1) := by decide +kernel
theorem k27_69 {d : Nat} {l0 l1 l2 l3 l4 : Option PV} {M : Mem} {Q : Option PV → Mem → Prop} {x : Int32} : WP d 27 69 [l0, l1, l2, l3, l4] ([vi x]) M Q = Q (some (vi x)) M := w_iret mC_27 d27_69 rfl
theorem d28_0 : decode cX4_hasNumber 0 = .ok (.iload_n 2, 1) := by decide +kernel
theorem k28_0 {d : Nat} {x : Int32} {l0 l1 : Option PV} {st : List PV} {M : Mem} {Q : Option PV → Mem → Prop} : WP d 28 0 [l0, l1, some (vi x)] (st) M Q = WP d 28 1 [l0, l1, some (vi x)] (vi x :: st) M Q := w1 mC_28 d28_0 rfl rfl
theorem d28_1 : decode cX4_hasNumber 1 = .ok (.tableswitch 69 0 7 #[47, 47, 53, 53, 53, 53, 59, 59], 47) := by decide +kernel
theorem k28_1c0 {d : Nat} {l0 l1 l2 : Option PV} {st : List PV} {M : Mem} {Q : Option PV → Mem → Prop} : WP d 28 1 [l0, l1, l2] (vi 0 :: st) M Q = WP d 28 48 [l0, l1, l2] (st) M Q := w_sw mC_28 d28_1 (by decide +kernel)
theorem k28_1c1 {d : Nat} {l0 l1 l2 : Option PV} {st : List PV} {M : Mem} {Q : Option PV → Mem → Prop} : WP d 28 1 [l0, l1, l2] (vi 1 :: st) M Q = WP d 28 48 [l0, l1, l2] (st) M Q := w_sw mC_28 d28_1 (by decide +kernel)
theorem k28_1c2 {d : Nat} {l0 l1 l2 : Option PV} {st : List PV} {M : Mem} {Q : Option PV → Mem → Prop} : WP d 28 1 [l0, l1, l2] (vi 2 :: st) M Q = WP d 28 54 [l0, l1, l2] (st) M Q := w_sw mC_28 d28_1 (by decide +kernel)
theorem k28_1c3 {d : Nat} {l0 l1 l2 : Option PV} {st : List PV} {M : Mem} {Q : Option PV → Mem → Prop} : WP d 28 1 [l0, l1, l2] (vi 3 :: st) M Q = WP d 28 54 [l0, l1, l2] (st) M Q := w_sw mC_28 d28_1 (by decide +kernel)
theorem k28_1c4 {d : Nat} {l0 l1 l2 : Option PV} {st : List PV} {M : Mem} {Q : Option PV → Mem → Prop} : WP d 28 1 [l0, l1, l2] (vi 4 :: st) M Q = WP d 28 54 [l0, l1, l2] (st) M Q := w_sw mC_28 d28_1 (by decide +kernel)
theorem k28_1c5 {d : Nat} {l0 l1 l2 : Option PV} {st : List PV} {M : Mem} {Q : Option PV → Mem → Prop} : WP d 28 1 [l0, l1, l2] (vi 5 :: st) M Q = WP d 28 54 [l0, l1, l2] (st) M Q := w_sw mC_28 d28_1 (by decide +kernel)
theorem k28_1c6 {d : Nat} {l0 l1 l2 : Option PV} {st : List PV} {M : Mem} {Q : Option PV → Mem → Prop} : WP d 28 1 [l0, l1, l2] (vi 6 :: st) M Q = WP d 28 60 [l0, l1, l2] (st) M Q := w_sw mC_28 d28_1 (by decide +kernel)
theorem k28_1c7 {d : Nat} {l0 l1 l2 : Option PV} {st : List PV} {M : Mem} {Q : Option PV → Mem → Prop} : WP d 28 1 [l0, l1, l2] (vi 7 :: st) M Q = WP d 28 60 [l0, l1, l2] (st) M Q := w_sw mC_28 d28_1 (by decide +kernel)
theorem k28_1 {d : Nat} {l0 l1 l2 : Option PV} {st : List PV} {M : Mem} {Q : Option PV → Mem → Prop} {x : Int32} (h : x.toInt < 0 ∨ 7 < x.toInt) : WP d 28 1 [l0, l1, l2] (vi x :: st) M Q = WP d 28 70 [l0, l1, l2] (st) M Q := w_swd mC_28 d28_1 (by decide) h
theorem d28_48 : decode cX4_hasNumber 48 = .ok (.aload_n 0, 1) := by decide +kernel
theorem k28_48 {d x : Nat} {l1 l2 : Option PV} {st : List PV} {M : Mem} {Q : Option PV → Mem → Prop} : WP d 28 48 [some (vr x), l1, l2] (st) M Q = WP d 28 49 [some (vr x), l1, l2] (vr x :: st) M Q := w1 mC_28 d28_48 rfl rfl
theorem d28_49 : decode cX4_hasNumber 49 = .ok (.iload_n 1, 1) := by decide +kernel
theorem k28_49 {d : Nat} {x : Int32} {l0 l2 : Option PV} {st : List PV} {M : Mem} {Q : Option PV → Mem → Prop} : WP d 28 49 [l0, some (vi x), l2] (st) M Q = WP d 28 50 [l0, some (vi x), l2] (vi x :: st) M Q := w1 mC_28 d28_49 rfl rfl
theorem d28_50 : decode cX4_hasNumber 50 = .ok (.invokevirtual 47, 3) := by decide +kernel
theorem k28_50 {d : Nat} {l0 l1 l2 : Option PV} {st : List PV} {M : Mem} {Q : Option PV → Mem → Prop} {a0 : Int32} {r : Nat} (hl : szL st ≤ 8) (hk : mK M r = 4) : WP (d + 1) 28 50 [l0, l1, l2] (vi a0 :: vr r :: st) M Q = WP d 24 0 [some (vr r), some (vi a0)] [] M (fun v M' => WP (d + 1) 28 53 [l0, l1, l2] (psh v st) M' Q) := w_callV mC_28 d28_50 (ci := 4) rfl rfl rfl (Nat.le_of_ble_eq_true rfl) (by decide) rfl hl (Or.inl hk)
theorem d28_53 : decode cX4_hasNumber 53 = .ok (.ireturn, 1) := by decide +kernel
theorem k28_53 {d : Nat} {l0 l1 l2 : Option PV} {M : Mem} {Q : Option PV → Mem → Prop} {x : Int32} (hx : x = 0 ∨ x = 1) : WP d 28 53 [l0, l1, l2] ([vi x]) M Q = Q (some (vi x)) M := w_zret mC_28 d28_53 rfl hx
theorem d28_54 : decode cX4_hasNumber 54 = .ok (.aload_n 0, 1) := by decide +kernel
theorem k28_54 {d x : Nat} {l1 l2 : Option PV} {st : List PV} {M : Mem} {Q : Option PV → Mem → Prop} : WP d 28 54 [some (vr x), l1, l2] (st) M Q = WP d 28 55 [some (vr x), l1, l2] (vr x :: st) M Q := w1 mC_28 d28_54 rfl rfl
theorem d28_55 : decode cX4_hasNumber 55 = .ok (.iload_n 1, 1) := by decide +kernel
theorem k28_55 {d : Nat} {x : Int32} {l0 l2 : Option PV} {st : List PV} {M : Mem} {Q : Option PV → Mem → Prop} : WP d 28 55 [l0, some (vi x), l2] (st) M Q = WP d 28 56 [l0, some (vi x), l2] (vi x :: st) M Q := w1 mC_28 d28_55 rfl rfl
theorem d28_56 : decode cX4_hasNumber 56 = .ok (.invokevirtual 51, 3) := by decide +kernel
theorem k28_56 {d : Nat} {l0 l1 l2 : Option PV} {st : List PV} {M : Mem} {Q : Option PV → Mem → Prop} {a0 : Int32} {r : Nat} (hl : szL st ≤ 8) (hk : mK M r = 4) : WP (d + 1) 28 56 [l0, l1, l2] (vi a0 :: vr r :: st) M Q = WP d 25 0 [some (vr r), some (vi a0)] [] M (fun v M' => WP (d + 1) 28 59 [l0, l1, l2] (psh v st) M' Q) := w_callV mC_28 d28_56 (ci := 4) rfl rfl rfl (Nat.le_of_ble_eq_true rfl) (by decide) rfl hl (Or.inl hk)
theorem d28_59 : decode cX4_hasNumber 59 = .ok (.ireturn, 1) := by decide +kernel
theorem k28_59 {d : Nat} {l0 l1 l2 : Option PV} {M : Mem} {Q : Option PV → Mem → Prop} {x : Int32} (hx : x = 0 ∨ x = 1) : WP d 28 59 [l0, l1, l2] ([vi x]) M Q = Q (some (vi x)) M := w_zret mC_28 d28_59 rfl hx
theorem d28_60 : decode cX4_hasNumber 60 = .ok (.iload_n 1, 1) := by decide +kernel
theorem k28_60 {d : Nat} {x : Int32} {l0 l2 : Option PV} {st : List PV} {M : Mem} {Q : Option PV → Mem → Prop} : WP d 28 60 [l0, some (vi x), l2] (st) M Q = WP d 28 61 [l0, some (vi x), l2] (vi x :: st) M Q := w1 mC_28 d28_60 rfl rfl
theorem d28_61 : decode cX4_hasNumber 61 = .ok (.ifCond .ne 7, 3) := by decide +kernel
theorem k28_61 {d : Nat} {l0 l1 l2 : Option PV} {st : List PV} {M : Mem} {Q : Option PV → Mem → Prop} {x : Int32} : WP d 28 61 [l0, l1, l2] (vi x :: st) M Q = (if x = 0 then WP d 28 64 [l0, l1, l2] (st) M Q else WP d 28 68 [l0, l1, l2] (st) M Q) := w_if_ne mC_28 d28_61 (by decide)
theorem d28_64 : decode cX4_hasNumber 64 = .ok (.iconst 1, 1) := by decide +kernel
theorem k28_64 {d : Nat} {l0 l1 l2 : Option PV} {st : List PV} {M : Mem} {Q : Option PV → Mem → Prop} : WP d 28 64 [l0, l1, l2] (st) M Q = WP d 28 65 [l0, l1, l2] (vi 1 :: st) M Q := w_iconst mC_28 d28_64 (by decide)
theorem d28_65 : decode cX4_hasNumber 65 = .ok (.goto 4, 3) := by decide +kernel
theorem k28_65 {d : Nat} {l0 l1 l2 : Option PV} {st : List PV} {M : Mem} {Q : Option PV → Mem → Prop} : WP d 28 65 [l0, l1, l2] (st) M Q = WP d 28 69 [l0, l1, l2] (st) M Q := w_goto mC_28 d28_65 (by decide)
theorem d28_68 : decode cX4_hasNumber 68 = .ok (.iconst 0, 1) := by decide +kernel
theorem k28_68 {d : Nat} {l0 l1 l2 : Option PV} {st : List PV} {M : Mem} {Q : Option PV → Mem → Prop} : WP d 28 68 [l0, l1, l2] (st) M Q = WP d 28 69 [l0, l1, l2] (vi 0 :: st) M Q := w_iconst mC_28 d28_68 (by decide)
theorem d28_69 : decode cX4_hasNumber 69 = .ok (.ireturn, 1) := by decide +kernel
theorem k28_69 {d : Nat} {l0 l1 l2 : Option PV} {M : Mem} {Q : Option PV → Mem → Prop} {x : Int32} (hx : x = 0 ∨ x = 1) : WP d 28 69 [l0, l1, l2] ([vi x]) M Q = Q (some (vi x)) M := w_zret mC_28 d28_69 rfl hx
theorem d28_70 : decode cX4_hasNumber 70 = .ok (.iconst 0, 1) := by decide +kernel
theorem k28_70 {d : Nat} {l0 l1 l2 : Option PV} {st : List PV} {M : Mem} {Q : Option PV → Mem → Prop} : WP d 28 70 [l0, l1, l2] (st) M Q = WP d 28 71 [l0, l1, l2] (vi 0 :: st) M Q := w_iconst mC_28 d28_70 (by decide)
theorem d28_71 : decode cX4_hasNumber 71 = .ok (.ireturn, 1) := by decide +kernel
theorem k28_71 {d : Nat} {l0 l1 l2 : Option PV} {M : Mem} {Q : Option PV → Mem → Prop} {x : Int32} (hx : x = 0 ∨ x = 1) : WP d 28 71 [l0, l1, l2] ([vi x]) M Q = Q (some (vi x)) M := w_zret mC_28 d28_71 rfl hx
theorem d29_0 : decode cX4_numberOf 0 = .ok (.iload_n 2, 1) := by decide +kernel
theorem k29_0 {d : Nat} {x : Int32} {l0 l1 : Option PV} {st : List PV} {M : Mem} {Q : Option PV → Mem → Prop} : WP d 29 0 [l0, l1, some (vi x)] (st) M Q = WP d 29 1 [l0, l1, some (vi x)] (vi x :: st) M Q := w1 mC_29 d29_0 rfl rfl
theorem d29_1 : decode cX4_numberOf 1 = .ok (.tableswitch 90 0 6 #[43, 50, 57, 64, 71, 78, 85], 43) := by decide +kernel
theorem k29_1c0 {d : Nat} {l0 l1 l2 : Option PV} {st : List PV} {M : Mem} {Q : Option PV → Mem → Prop} : WP d 29 1 [l0, l1, l2] (vi 0 :: st) M Q = WP d 29 44 [l0, l1, l2] (st) M Q := w_sw mC_29 d29_1 (by decide +kernel)
theorem k29_1c1 {d : Nat} {l0 l1 l2 : Option PV} {st : List PV} {M : Mem} {Q : Option PV → Mem → Prop} : WP d 29 1 [l0, l1, l2] (vi 1 :: st) M Q = WP d 29 51 [l0, l1, l2] (st) M Q := w_sw mC_29 d29_1 (by decide +kernel)
theorem k29_1c2 {d : Nat} {l0 l1 l2 : Option PV} {st : List PV} {M : Mem} {Q : Option PV → Mem → Prop} : WP d 29 1 [l0, l1, l2] (vi 2 :: st) M Q = WP d 29 58 [l0, l1, l2] (st) M Q := w_sw mC_29 d29_1 (by decide +kernel)
theorem k29_1c3 {d : Nat} {l0 l1 l2 : Option PV} {st : List PV} {M : Mem} {Q : Option PV → Mem → Prop} : WP d 29 1 [l0, l1, l2] (vi 3 :: st) M Q = WP d 29 65 [l0, l1, l2] (st) M Q := w_sw mC_29 d29_1 (by decide +kernel)
theorem k29_1c4 {d : Nat} {l0 l1 l2 : Option PV} {st : List PV} {M : Mem} {Q : Option PV → Mem → Prop} : WP d 29 1 [l0, l1, l2] (vi 4 :: st) M Q = WP d 29 72 [l0, l1, l2] (st) M Q := w_sw mC_29 d29_1 (by decide +kernel)
theorem k29_1c5 {d : Nat} {l0 l1 l2 : Option PV} {st : List PV} {M : Mem} {Q : Option PV → Mem → Prop} : WP d 29 1 [l0, l1, l2] (vi 5 :: st) M Q = WP d 29 79 [l0, l1, l2] (st) M Q := w_sw mC_29 d29_1 (by decide +kernel)
theorem k29_1c6 {d : Nat} {l0 l1 l2 : Option PV} {st : List PV} {M : Mem} {Q : Option PV → Mem → Prop} : WP d 29 1 [l0, l1, l2] (vi 6 :: st) M Q = WP d 29 86 [l0, l1, l2] (st) M Q := w_sw mC_29 d29_1 (by decide +kernel)
theorem k29_1 {d : Nat} {l0 l1 l2 : Option PV} {st : List PV} {M : Mem} {Q : Option PV → Mem → Prop} {x : Int32} (h : x.toInt < 0 ∨ 6 < x.toInt) : WP d 29 1 [l0, l1, l2] (vi x :: st) M Q = WP d 29 91 [l0, l1, l2] (st) M Q := w_swd mC_29 d29_1 (by decide) h
theorem d29_44 : decode cX4_numberOf 44 = .ok (.aload_n 0, 1) := by decide +kernel
theorem k29_44 {d x : Nat} {l1 l2 : Option PV} {st : List PV} {M : Mem} {Q : Option PV → Mem → Prop} : WP d 29 44 [some (vr x), l1, l2] (st) M Q = WP d 29 45 [some (vr x), l1, l2] (vr x :: st) M Q := w1 mC_29 d29_44 rfl rfl
theorem d29_45 : decode cX4_numberOf 45 = .ok (.getfield 9, 3) := by decide +kernel
theorem k29_45 {d : Nat} {l0 l1 l2 : Option PV} {st : List PV} {M : Mem} {Q : Option PV → Mem → Prop} {r : Nat} (hk : mK M r = 4) : WP d 29 45 [l0, l1, l2] (vr r :: st) M Q = WP d 29 48 [l0, l1, l2] (vr (mR M r 0) :: st) M Q := w_getr mC_29 d29_45 fE_4_9 rfl (by rw [hk]; rfl)
theorem d29_48 : decode cX4_numberOf 48 = .ok (.iload_n 1, 1) := by decide +kernel
theorem k29_48 {d : Nat} {x : Int32} {l0 l2 : Option PV} {st : List PV} {M : Mem} {Q : Option PV → Mem → Prop} : WP d 29 48 [l0, some (vi x), l2] (st) M Q = WP d 29 49 [l0, some (vi x), l2] (vi x :: st) M Q := w1 mC_29 d29_48 rfl rfl
theorem d29_49 : decode cX4_numberOf 49 = .ok (.iaload, 1) := by decide +kernel
theorem k29_49 {d : Nat} {l0 l1 l2 : Option PV} {st : List PV} {M : Mem} {Q : Option PV → Mem → Prop} {r : Nat} {j : Int32} (hk : mK M r = 13) (hj : inb j (mN M r)) (_h1 : r ≠ 1) : WP d 29 49 [l0, l1, l2] (vi j :: vr r :: st) M Q = WP d 29 50 [l0, l1, l2] (vi (mI M r (ix j)) :: st) M Q := w_iald mC_29 d29_49 hk hj
theorem d29_50 : decode cX4_numberOf 50 = .ok (.ireturn, 1) := by decide +kernel
theorem k29_50 {d : Nat} {l0 l1 l2 : Option PV} {M : Mem} {Q : Option PV → Mem → Prop} {x : Int32} : WP d 29 50 [l0, l1, l2] ([vi x]) M Q = Q (some (vi x)) M := w_iret mC_29 d29_50 rfl
theorem d29_51 : decode cX4_numberOf 51 = .ok (.aload_n 0, 1) := by decide +kernel
theorem k29_51 {d x : Nat} {l1 l2 : Option PV} {st : List PV} {M : Mem} {Q : Option PV → Mem → Prop} : WP d 29 51 [some (vr x), l1, l2] (st) M Q = WP d 29 52 [some (vr x), l1, l2] (vr x :: st) M Q := w1 mC_29 d29_51 rfl rfl
theorem d29_52 : decode cX4_numberOf 52 = .ok (.getfield 15, 3) := by decide +kernel
theorem k29_52 {d : Nat} {l0 l1 l2 : Option PV} {st : List PV} {M : Mem} {Q : Option PV → Mem → Prop} {r : Nat} (hk : mK M r = 4) : WP d 29 52 [l0, l1, l2] (vr r :: st) M Q = WP d 29 55 [l0, l1, l2] (vr (mR M r 1) :: st) M Q := w_getr mC_29 d29_52 fE_4_15 rfl (by rw [hk]; rfl)
theorem d29_55 : decode cX4_numberOf 55 = .ok (.iload_n 1, 1) := by decide +kernel
theorem k29_55 {d : Nat} {x : Int32} {l0 l2 : Option PV} {st : List PV} {M : Mem} {Q : Option PV → Mem → Prop} : WP d 29 55 [l0, some (vi x), l2] (st) M Q = WP d 29 56 [l0, some (vi x), l2] (vi x :: st) M Q := w1 mC_29 d29_55 rfl rfl
theorem d29_56 : decode cX4_numberOf 56 = .ok (.iaload, 1) := by decide +kernel
theorem k29_56 {d : Nat} {l0 l1 l2 : Option PV} {st : List PV} {M : Mem} {Q : Option PV → Mem → Prop} {r : Nat} {j : Int32} (hk : mK M r = 13) (hj : inb j (mN M r)) (_h1 : r ≠ 1) : WP d 29 56 [l0, l1, l2] (vi j :: vr r :: st) M Q = WP d 29 57 [l0, l1, l2] (vi (mI M r (ix j)) :: st) M Q := w_iald mC_29 d29_56 hk hj
theorem d29_57 : decode cX4_numberOf 57 = .ok (.ireturn, 1) := by decide +kernel
theorem k29_57 {d : Nat} {l0 l1 l2 : Option PV} {M : Mem} {Q : Option PV → Mem → Prop} {x : Int32} : WP d 29 57 [l0, l1, l2] ([vi x]) M Q = Q (some (vi x)) M := w_iret mC_29 d29_57 rfl
theorem d29_58 : decode cX4_numberOf 58 = .ok (.aload_n 0, 1) := by decide +kernel
theorem k29_58 {d x : Nat} {l1 l2 : Option PV} {st : List PV} {M : Mem} {Q : Option PV → Mem → Prop} : WP d 29 58 [some (vr x), l1, l2] (st) M Q = WP d 29 59 [some (vr x), l1, l2] (vr x :: st) M Q := w1 mC_29 d29_58 rfl rfl
theorem d29_59 : decode cX4_numberOf 59 = .ok (.getfield 18, 3) := by decide +kernel
theorem k29_59 {d : Nat} {l0 l1 l2 : Option PV} {st : List PV} {M : Mem} {Q : Option PV → Mem → Prop} {r : Nat} (hk : mK M r = 4) : WP d 29 59 [l0, l1, l2] (vr r :: st) M Q = WP d 29 62 [l0, l1, l2] (vr (mR M r 2) :: st) M Q := w_getr mC_29 d29_59 fE_4_18 rfl (by rw [hk]; rfl)
theorem d29_62 : decode cX4_numberOf 62 = .ok (.iload_n 1, 1) := by decide +kernel
theorem k29_62 {d : Nat} {x : Int32} {l0 l2 : Option PV} {st : List PV} {M : Mem} {Q : Option PV → Mem → Prop} : WP d 29 62 [l0, some (vi x), l2] (st) M Q = WP d 29 63 [l0, some (vi x), l2] (vi x :: st) M Q := w1 mC_29 d29_62 rfl rfl
theorem d29_63 : decode cX4_numberOf 63 = .ok (.iaload, 1) := by decide +kernel
theorem k29_63 {d : Nat} {l0 l1 l2 : Option PV} {st : List PV} {M : Mem} {Q : Option PV → Mem → Prop} {r : Nat} {j : Int32} (hk : mK M r = 13) (hj : inb j (mN M r)) (_h1 : r ≠ 1) : WP d 29 63 [l0, l1, l2] (vi j :: vr r :: st) M Q = WP d 29 64 [l0, l1, l2] (vi (mI M r (ix j)) :: st) M Q := w_iald mC_29 d29_63 hk hj
theorem d29_64 : decode cX4_numberOf 64 = .ok (.ireturn, 1) := by decide +kernel
theorem k29_64 {d : Nat} {l0 l1 l2 : Option PV} {M : Mem} {Q : Option PV → Mem → Prop} {x : Int32} : WP d 29 64 [l0, l1, l2] ([vi x]) M Q = Q (some (vi x)) M := w_iret mC_29 d29_64 rfl
theorem d29_65 : decode cX4_numberOf 65 = .ok (.aload_n 0, 1) := by decide +kernel
theorem k29_65 {d x : Nat} {l1 l2 : Option PV} {st : List PV} {M : Mem} {Q : Option PV → Mem → Prop} : WP d 29 65 [some (vr x), l1, l2] (st) M Q = WP d 29 66 [some (vr x), l1, l2] (vr x :: st) M Q := w1 mC_29 d29_65 rfl rfl
theorem d29_66 : decode cX4_numberOf 66 = .ok (.getfield 21, 3) := by decide +kernel
theorem k29_66 {d : Nat} {l0 l1 l2 : Option PV} {st : List PV} {M : Mem} {Q : Option PV → Mem → Prop} {r : Nat} (hk : mK M r = 4) : WP d 29 66 [l0, l1, l2] (vr r :: st) M Q = WP d 29 69 [l0, l1, l2] (vr (mR M r 3) :: st) M Q := w_getr mC_29 d29_66 fE_4_21 rfl (by rw [hk]; rfl)
theorem d29_69 : decode cX4_numberOf 69 = .ok (.iload_n 1, 1) := by decide +kernel
theorem k29_69 {d : Nat} {x : Int32} {l0 l2 : Option PV} {st : List PV} {M : Mem} {Q : Option PV → Mem → Prop} : WP d 29 69 [l0, some (vi x), l2] (st) M Q = WP d 29 70 [l0, some (vi x), l2] (vi x :: st) M Q := w1 mC_29 d29_69 rfl rfl
theorem d29_70 : decode cX4_numberOf 70 = .ok (.iaload, 1) := by decide +kernel
theorem k29_70 {d : Nat} {l0 l1 l2 : Option PV} {st : List PV} {M : Mem} {Q : Option PV → Mem → Prop} {r : Nat} {j : Int32} (hk : mK M r = 13) (hj : inb j (mN M r)) (_h1 : r ≠ 1) : WP d 29 70 [l0, l1, l2] (vi j :: vr r :: st) M Q = WP d 29 71 [l0, l1, l2] (vi (mI M r (ix j)) :: st) M Q := w_iald mC_29 d29_70 hk hj
theorem d29_71 : decode cX4_numberOf 71 = .ok (.ireturn, 1) := by decide +kernel
theorem k29_71 {d : Nat} {l0 l1 l2 : Option PV} {M : Mem} {Q : Option PV → Mem → Prop} {x : Int32} : WP d 29 71 [l0, l1, l2] ([vi x]) M Q = Q (some (vi x)) M := w_iret mC_29 d29_71 rfl
theorem d29_72 : decode cX4_numberOf 72 = .ok (.aload_n 0, 1) := by decide +kernel
theorem k29_72 {d x : Nat} {l1 l2 : Option PV} {st : List PV} {M : Mem} {Q : Option PV → Mem → Prop} : WP d 29 72 [some (vr x), l1, l2] (st) M Q = WP d 29 73 [some (vr x), l1, l2] (vr x :: st) M Q := w1 mC_29 d29_72 rfl rfl
theorem d29_73 : decode cX4_numberOf 73 = .ok (.getfield 24, 3) := by decide +kernel
theorem k29_73 {d : Nat} {l0 l1 l2 : Option PV} {st : List PV} {M : Mem} {Q : Option PV → Mem → Prop} {r : Nat} (hk : mK M r = 4) : WP d 29 73 [l0, l1, l2] (vr r :: st) M Q = WP d 29 76 [l0, l1, l2] (vr (mR M r 4) :: st) M Q := w_getr mC_29 d29_73 fE_4_24 rfl (by rw [hk]; rfl)
theorem d29_76 : decode cX4_numberOf 76 = .ok (.iload_n 1, 1) := by decide +kernel
theorem k29_76 {d : Nat} {x : Int32} {l0 l2 : Option PV} {st : List PV} {M : Mem} {Q : Option PV → Mem → Prop} : WP d 29 76 [l0, some (vi x), l2] (st) M Q = WP d 29 77 [l0, some (vi x), l2] (vi x :: st) M Q := w1 mC_29 d29_76 rfl rfl
theorem d29_77 : decode cX4_numberOf 77 = .ok (.iaload, 1) := by decide +kernel
theorem k29_77 {d : Nat} {l0 l1 l2 : Option PV} {st : List PV} {M : Mem} {Q : Option PV → Mem → Prop} {r : Nat} {j : Int32} (hk : mK M r = 13) (hj : inb j (mN M r)) (_h1 : r ≠ 1) : WP d 29 77 [l0, l1, l2] (vi j :: vr r :: st) M Q = WP d 29 78 [l0, l1, l2] (vi (mI M r (ix j)) :: st) M Q := w_iald mC_29 d29_77 hk hj
theorem d29_78 : decode cX4_numberOf 78 = .ok (.ireturn, 1) := by decide +kernel
theorem k29_78 {d : Nat} {l0 l1 l2 : Option PV} {M : Mem} {Q : Option PV → Mem → Prop} {x : Int32} : WP d 29 78 [l0, l1, l2] ([vi x]) M Q = Q (some (vi x)) M := w_iret mC_29 d29_78 rfl
theorem d29_79 : decode cX4_numberOf 79 = .ok (.aload_n 0, 1) := by decide +kernel
theorem k29_79 {d x : Nat} {l1 l2 : Option PV} {st : List PV} {M : Mem} {Q : Option PV → Mem → Prop} : WP d 29 79 [some (vr x), l1, l2] (st) M Q = WP d 29 80 [some (vr x), l1, l2] (vr x :: st) M Q := w1 mC_29 d29_79 rfl rfl
theorem d29_80 : decode cX4_numberOf 80 = .ok (.getfield 27, 3) := by decide +kernel
theorem k29_80 {d : Nat} {l0 l1 l2 : Option PV} {st : List PV} {M : Mem} {Q : Option PV → Mem → Prop} {r : Nat} (hk : mK M r = 4) : WP d 29 80 [l0, l1, l2] (vr r :: st) M Q = WP d 29 83 [l0, l1, l2] (vr (mR M r 5) :: st) M Q := w_getr mC_29 d29_80 fE_4_27 rfl (by rw [hk]; rfl)
theorem d29_83 : decode cX4_numberOf 83 = .ok (.iload_n 1, 1) := by decide +kernel
theorem k29_83 {d : Nat} {x : Int32} {l0 l2 : Option PV} {st : List PV} {M : Mem} {Q : Option PV → Mem → Prop} : WP d 29 83 [l0, some (vi x), l2] (st) M Q = WP d 29 84 [l0, some (vi x), l2] (vi x :: st) M Q := w1 mC_29 d29_83 rfl rfl
theorem d29_84 : decode cX4_numberOf 84 = .ok (.iaload, 1) := by decide +kernel
theorem k29_84 {d : Nat} {l0 l1 l2 : Option PV} {st : List PV} {M : Mem} {Q : Option PV → Mem → Prop} {r : Nat} {j : Int32} (hk : mK M r = 13) (hj : inb j (mN M r)) (_h1 : r ≠ 1) : WP d 29 84 [l0, l1, l2] (vi j :: vr r :: st) M Q = WP d 29 85 [l0, l1, l2] (vi (mI M r (ix j)) :: st) M Q := w_iald mC_29 d29_84 hk hj
theorem d29_85 : decode cX4_numberOf 85 = .ok (.ireturn, 1) := by decide +kernel
theorem k29_85 {d : Nat} {l0 l1 l2 : Option PV} {M : Mem} {Q : Option PV → Mem → Prop} {x : Int32} : WP d 29 85 [l0, l1, l2] ([vi x]) M Q = Q (some (vi x)) M := w_iret mC_29 d29_85 rfl
theorem d29_86 : decode cX4_numberOf 86 = .ok (.aload_n 0, 1) := by decide +kernel
theorem k29_86 {d x : Nat} {l1 l2 : Option PV} {st : List PV} {M : Mem} {Q : Option PV → Mem → Prop} : WP d 29 86 [some (vr x), l1, l2] (st) M Q = WP d 29 87 [some (vr x), l1, l2] (vr x :: st) M Q := w1 mC_29 d29_86 rfl rfl
theorem d29_87 : decode cX4_numberOf 87 = .ok (.getfield 33, 3) := by decide +kernel
theorem k29_87 {d : Nat} {l0 l1 l2 : Option PV} {st : List PV} {M : Mem} {Q : Option PV → Mem → Prop} {r : Nat} (hk : mK M r = 4) : WP d 29 87 [l0, l1, l2] (vr r :: st) M Q = WP d 29 90 [l0, l1, l2] (vi (mI M r 9) :: st) M Q := w_get mC_29 d29_87 fE_4_33 rfl (by rw [hk]; rfl)
theorem d29_90 : decode cX4_numberOf 90 = .ok (.ireturn, 1) := by decide +kernel
theorem k29_90 {d : Nat} {l0 l1 l2 : Option PV} {M : Mem} {Q : Option PV → Mem → Prop} {x : Int32} : WP d 29 90 [l0, l1, l2] ([vi x]) M Q = Q (some (vi x)) M := w_iret mC_29 d29_90 rfl
theorem d29_91 : decode cX4_numberOf 91 = .ok (.aload_n 0, 1) := by decide +kernel
theorem k29_91 {d x : Nat} {l1 l2 : Option PV} {st : List PV} {M : Mem} {Q : Option PV → Mem → Prop} : WP d 29 91 [some (vr x), l1, l2] (st) M Q = WP d 29 92 [some (vr x), l1, l2] (vr x :: st) M Q := w1 mC_29 d29_91 rfl rfl
theorem d29_92 : decode cX4_numberOf 92 = .ok (.getfield 54, 3) := by decide +kernel
theorem k29_92 {d : Nat} {l0 l1 l2 : Option PV} {st : List PV} {M : Mem} {Q : Option PV → Mem → Prop} {r : Nat} (hk : mK M r = 4) : WP d 29 92 [l0, l1, l2] (vr r :: st) M Q = WP d 29 95 [l0, l1, l2] (vi (mI M r 10) :: st) M Q := w_get mC_29 d29_92 fE_4_54 rfl (by rw [hk]; rfl)
theorem d29_95 : decode cX4_numberOf 95 = .ok (.ireturn, 1) := by decide +kernel
theorem k29_95 {d : Nat} {l0 l1 l2 : Option PV} {M : Mem} {Q : Option PV → Mem → Prop} {x : Int32} : WP d 29 95 [l0, l1, l2] ([vi x]) M Q = Q (some (vi x)) M := w_iret mC_29 d29_95 rfl
theorem d30_0 : decode cX4_become 0 = .ok (.aload_n 0, 1) := by decide +kernel
theorem k30_0 {d x : Nat} {l1 l2 l3 : Option PV} {st : List PV} {M : Mem} {Q : Option PV → Mem → Prop} : WP d 30 0 [some (vr x), l1, l2, l3] (st) M Q = WP d 30 1 [some (vr x), l1, l2, l3] (vr x :: st) M Q := w1 mC_30 d30_0 rfl rfl
theorem d30_1 : decode cX4_become 1 = .ok (.iload_n 1, 1) := by decide +kernel
theorem k30_1 {d : Nat} {x : Int32} {l0 l2 l3 : Option PV} {st : List PV} {M : Mem} {Q : Option PV → Mem → Prop} : WP d 30 1 [l0, some (vi x), l2, l3] (st) M Q = WP d 30 2 [l0, some (vi x), l2, l3] (vi x :: st) M Q := w1 mC_30 d30_1 rfl rfl
theorem d30_2 : decode cX4_become 2 = .ok (.iload_n 2, 1) := by decide +kernel
theorem k30_2 {d : Nat} {x : Int32} {l0 l1 l3 : Option PV} {st : List PV} {M : Mem} {Q : Option PV → Mem → Prop} : WP d 30 2 [l0, l1, some (vi x), l3] (st) M Q = WP d 30 3 [l0, l1, some (vi x), l3] (vi x :: st) M Q := w1 mC_30 d30_2 rfl rfl
theorem d30_3 : decode cX4_become 3 = .ok (.invokevirtual 57, 3) := by decide +kernel
theorem k30_3 {d : Nat} {l0 l1 l2 l3 : Option PV} {st : List PV} {M : Mem} {Q : Option PV → Mem → Prop} {a0 a1 : Int32} {r : Nat} (hl : szL st ≤ 8) (hk : mK M r = 4) : WP (d + 1) 30 3 [l0, l1, l2, l3] (vi a1 :: vi a0 :: vr r :: st) M Q = WP d 28 0 [some (vr r), some (vi a0), some (vi a1)] [] M (fun v M' => WP (d + 1) 30 6 [l0, l1, l2, l3] (psh v st) M' Q) := w_callV mC_30 d30_3 (ci := 4) rfl rfl rfl (Nat.le_of_ble_eq_true rfl) (by decide) rfl hl (Or.inl hk)
theorem d30_6 : decode cX4_become 6 = .ok (.ifCond .ne 4, 3) := by decide +kernel
theorem k30_6 {d : Nat} {l0 l1 l2 l3 : Option PV} {st : List PV} {M : Mem} {Q : Option PV → Mem → Prop} {x : Int32} : WP d 30 6 [l0, l1, l2, l3] (vi x :: st) M Q = (if x = 0 then WP d 30 9 [l0, l1, l2, l3] (st) M Q else WP d 30 10 [l0, l1, l2, l3] (st) M Q) := w_if_ne mC_30 d30_6 (by decide)
theorem d30_9 : decode cX4_become 9 = .ok (.return_, 1) := by decide +kernel
theorem k30_9 {d : Nat} {l0 l1 l2 l3 : Option PV} {M : Mem} {Q : Option PV → Mem → Prop} : WP d 30 9 [l0, l1, l2, l3] ([]) M Q = Q none M := w_vret mC_30 d30_9 rfl
theorem d30_10 : decode cX4_become 10 = .ok (.iload_n 2, 1) := by decide +kernel
theorem k30_10 {d : Nat} {x : Int32} {l0 l1 l3 : Option PV} {st : List PV} {M : Mem} {Q : Option PV → Mem → Prop} : WP d 30 10 [l0, l1, some (vi x), l3] (st) M Q = WP d 30 11 [l0, l1, some (vi x), l3] (vi x :: st) M Q := w1 mC_30 d30_10 rfl rfl
theorem d30_11 : decode cX4_become 11 = .ok (.tableswitch 109 0 6 #[41, 51, 61, 71, 81, 91, 101], 41) := by decide +kernel
theorem k30_11c0 {d : Nat} {l0 l1 l2 l3 : Option PV} {st : List PV} {M : Mem} {Q : Option PV → Mem → Prop} : WP d 30 11 [l0, l1, l2, l3] (vi 0 :: st) M Q = WP d 30 52 [l0, l1, l2, l3] (st) M Q := w_sw mC_30 d30_11 (by decide +kernel)
theorem k30_11c1 {d : Nat} {l0 l1 l2 l3 : Option PV} {st : List PV} {M : Mem} {Q : Option PV → Mem → Prop} : WP d 30 11 [l0, l1, l2, l3] (vi 1 :: st) M Q = WP d 30 62 [l0, l1, l2, l3] (st) M Q := w_sw mC_30 d30_11 (by decide +kernel)
theorem k30_11c2 {d : Nat} {l0 l1 l2 l3 : Option PV} {st : List PV} {M : Mem} {Q : Option PV → Mem → Prop} : WP d 30 11 [l0, l1, l2, l3] (vi 2 :: st) M Q = WP d 30 72 [l0, l1, l2, l3] (st) M Q := w_sw mC_30 d30_11 (by decide +kernel)
theorem k30_11c3 {d : Nat} {l0 l1 l2 l3 : Option PV} {st : List PV} {M : Mem} {Q : Option PV → Mem → Prop} : WP d 30 11 [l0, l1, l2, l3] (vi 3 :: st) M Q = WP d 30 82 [l0, l1, l2, l3] (st) M Q := w_sw mC_30 d30_11 (by decide +kernel)
theorem k30_11c4 {d : Nat} {l0 l1 l2 l3 : Option PV} {st : List PV} {M : Mem} {Q : Option PV → Mem → Prop} : WP d 30 11 [l0, l1, l2, l3] (vi 4 :: st) M Q = WP d 30 92 [l0, l1, l2, l3] (st) M Q := w_sw mC_30 d30_11 (by decide +kernel)
theorem k30_11c5 {d : Nat} {l0 l1 l2 l3 : Option PV} {st : List PV} {M : Mem} {Q : Option PV → Mem → Prop} : WP d 30 11 [l0, l1, l2, l3] (vi 5 :: st) M Q = WP d 30 102 [l0, l1, l2, l3] (st) M Q := w_sw mC_30 d30_11 (by decide +kernel)
theorem k30_11c6 {d : Nat} {l0 l1 l2 l3 : Option PV} {st : List PV} {M : Mem} {Q : Option PV → Mem → Prop} : WP d 30 11 [l0, l1, l2, l3] (vi 6 :: st) M Q = WP d 30 112 [l0, l1, l2, l3] (st) M Q := w_sw mC_30 d30_11 (by decide +kernel)
theorem k30_11 {d : Nat} {l0 l1 l2 l3 : Option PV} {st : List PV} {M : Mem} {Q : Option PV → Mem → Prop} {x : Int32} (h : x.toInt < 0 ∨ 6 < x.toInt) : WP d 30 11 [l0, l1, l2, l3] (vi x :: st) M Q = WP d 30 120 [l0, l1, l2, l3] (st) M Q := w_swd mC_30 d30_11 (by decide) h
theorem d30_52 : decode cX4_become 52 = .ok (.aload_n 0, 1) := by decide +kernel
theorem k30_52 {d x : Nat} {l1 l2 l3 : Option PV} {st : List PV} {M : Mem} {Q : Option PV → Mem → Prop} : WP d 30 52 [some (vr x), l1, l2, l3] (st) M Q = WP d 30 53 [some (vr x), l1, l2, l3] (vr x :: st) M Q := w1 mC_30 d30_52 rfl rfl
theorem d30_53 : decode cX4_become 53 = .ok (.getfield 9, 3) := by decide +kernel
theorem k30_53 {d : Nat} {l0 l1 l2 l3 : Option PV} {st : List PV} {M : Mem} {Q : Option PV → Mem → Prop} {r : Nat} (hk : mK M r = 4) : WP d 30 53 [l0, l1, l2, l3] (vr r :: st) M Q = WP d 30 56 [l0, l1, l2, l3] (vr (mR M r 0) :: st) M Q := w_getr mC_30 d30_53 fE_4_9 rfl (by rw [hk]; rfl)
theorem d30_56 : decode cX4_become 56 = .ok (.iload_n 1, 1) := by decide +kernel
theorem k30_56 {d : Nat} {x : Int32} {l0 l2 l3 : Option PV} {st : List PV} {M : Mem} {Q : Option PV → Mem → Prop} : WP d 30 56 [l0, some (vi x), l2, l3] (st) M Q = WP d 30 57 [l0, some (vi x), l2, l3] (vi x :: st) M Q := w1 mC_30 d30_56 rfl rfl
theorem d30_57 : decode cX4_become 57 = .ok (.iload_n 3, 1) := by decide +kernel
theorem k30_57 {d : Nat} {x : Int32} {l0 l1 l2 : Option PV} {st : List PV} {M : Mem} {Q : Option PV → Mem → Prop} : WP d 30 57 [l0, l1, l2, some (vi x)] (st) M Q = WP d 30 58 [l0, l1, l2, some (vi x)] (vi x :: st) M Q := w1 mC_30 d30_57 rfl rfl
theorem d30_58 : decode cX4_become 58 = .ok (.iastore, 1) := by decide +kernel
theorem k30_58 {d : Nat} {l0 l1 l2 l3 : Option PV} {st : List PV} {M : Mem} {Q : Option PV → Mem → Prop} {r : Nat} {j x : Int32} (hk : mK M r = 13) (hj : inb j (mN M r)) (h1 : r ≠ 1) : WP d 30 58 [l0, l1, l2, l3] (vi x :: vi j :: vr r :: st) M Q = WP d 30 59 [l0, l1, l2, l3] (st) (sI M r (ix j) x) Q := w_iast mC_30 d30_58 hk hj h1
theorem d30_59 : decode cX4_become 59 = .ok (.goto 66, 3) := by decide +kernel
theorem k30_59 {d : Nat} {l0 l1 l2 l3 : Option PV} {st : List PV} {M : Mem} {Q : Option PV → Mem → Prop} : WP d 30 59 [l0, l1, l2, l3] (st) M Q = WP d 30 125 [l0, l1, l2, l3] (st) M Q := w_goto mC_30 d30_59 (by decide)
theorem d30_62 : decode cX4_become 62 = .ok (.aload_n 0, 1) := by decide +kernel
theorem k30_62 {d x : Nat} {l1 l2 l3 : Option PV} {st : List PV} {M : Mem} {Q : Option PV → Mem → Prop} : WP d 30 62 [some (vr x), l1, l2, l3] (st) M Q = WP d 30 63 [some (vr x), l1, l2, l3] (vr x :: st) M Q := w1 mC_30 d30_62 rfl rfl
theorem d30_63 : decode cX4_become 63 = .ok (.getfield 15, 3) := by decide +kernel
theorem k30_63 {d : Nat} {l0 l1 l2 l3 : Option PV} {st : List PV} {M : Mem} {Q : Option PV → Mem → Prop} {r : Nat} (hk : mK M r = 4) : WP d 30 63 [l0, l1, l2, l3] (vr r :: st) M Q = WP d 30 66 [l0, l1, l2, l3] (vr (mR M r 1) :: st) M Q := w_getr mC_30 d30_63 fE_4_15 rfl (by rw [hk]; rfl)
theorem d30_66 : decode cX4_become 66 = .ok (.iload_n 1, 1) := by decide +kernel
theorem k30_66 {d : Nat} {x : Int32} {l0 l2 l3 : Option PV} {st : List PV} {M : Mem} {Q : Option PV → Mem → Prop} : WP d 30 66 [l0, some (vi x), l2, l3] (st) M Q = WP d 30 67 [l0, some (vi x), l2, l3] (vi x :: st) M Q := w1 mC_30 d30_66 rfl rfl
theorem d30_67 : decode cX4_become 67 = .ok (.iload_n 3, 1) := by decide +kernel
theorem k30_67 {d : Nat} {x : Int32} {l0 l1 l2 : Option PV} {st : List PV} {M : Mem} {Q : Option PV → Mem → Prop} : WP d 30 67 [l0, l1, l2, some (vi x)] (st) M Q = WP d 30 68 [l0, l1, l2, some (vi x)] (vi x :: st) M Q := w1 mC_30 d30_67 rfl rfl
theorem d30_68 : decode cX4_become 68 = .ok (.iastore, 1) := by decide +kernel
theorem k30_68 {d : Nat} {l0 l1 l2 l3 : Option PV} {st : List PV} {M : Mem} {Q : Option PV → Mem → Prop} {r : Nat} {j x : Int32} (hk : mK M r = 13) (hj : inb j (mN M r)) (h1 : r ≠ 1) : WP d 30 68 [l0, l1, l2, l3] (vi x :: vi j :: vr r :: st) M Q = WP d 30 69 [l0, l1, l2, l3] (st) (sI M r (ix j) x) Q := w_iast mC_30 d30_68 hk hj h1
theorem d30_69 : decode cX4_become 69 = .ok (.goto 56, 3) := by decide +kernel
theorem k30_69 {d : Nat} {l0 l1 l2 l3 : Option PV} {st : List PV} {M : Mem} {Q : Option PV → Mem → Prop} : WP d 30 69 [l0, l1, l2, l3] (st) M Q = WP d 30 125 [l0, l1, l2, l3] (st) M Q := w_goto mC_30 d30_69 (by decide)
theorem d30_72 : decode cX4_become 72 = .ok (.aload_n 0, 1) := by decide +kernel
theorem k30_72 {d x : Nat} {l1 l2 l3 : Option PV} {st : List PV} {M : Mem} {Q : Option PV → Mem → Prop} : WP d 30 72 [some (vr x), l1, l2, l3] (st) M Q = WP d 30 73 [some (vr x), l1, l2, l3] (vr x :: st) M Q := w1 mC_30 d30_72 rfl rfl
theorem d30_73 : decode cX4_become 73 = .ok (.getfield 18, 3) := by decide +kernel
theorem k30_73 {d : Nat} {l0 l1 l2 l3 : Option PV} {st : List PV} {M : Mem} {Q : Option PV → Mem → Prop} {r : Nat} (hk : mK M r = 4) : WP d 30 73 [l0, l1, l2, l3] (vr r :: st) M Q = WP d 30 76 [l0, l1, l2, l3] (vr (mR M r 2) :: st) M Q := w_getr mC_30 d30_73 fE_4_18 rfl (by rw [hk]; rfl)
theorem d30_76 : decode cX4_become 76 = .ok (.iload_n 1, 1) := by decide +kernel
theorem k30_76 {d : Nat} {x : Int32} {l0 l2 l3 : Option PV} {st : List PV} {M : Mem} {Q : Option PV → Mem → Prop} : WP d 30 76 [l0, some (vi x), l2, l3] (st) M Q = WP d 30 77 [l0, some (vi x), l2, l3] (vi x :: st) M Q := w1 mC_30 d30_76 rfl rfl
theorem d30_77 : decode cX4_become 77 = .ok (.iload_n 3, 1) := by decide +kernel
theorem k30_77 {d : Nat} {x : Int32} {l0 l1 l2 : Option PV} {st : List PV} {M : Mem} {Q : Option PV → Mem → Prop} : WP d 30 77 [l0, l1, l2, some (vi x)] (st) M Q = WP d 30 78 [l0, l1, l2, some (vi x)] (vi x :: st) M Q := w1 mC_30 d30_77 rfl rfl
theorem d30_78 : decode cX4_become 78 = .ok (.iastore, 1) := by decide +kernel
theorem k30_78 {d : Nat} {l0 l1 l2 l3 : Option PV} {st : List PV} {M : Mem} {Q : Option PV → Mem → Prop} {r : Nat} {j x : Int32} (hk : mK M r = 13) (hj : inb j (mN M r)) (h1 : r ≠ 1) : WP d 30 78 [l0, l1, l2, l3] (vi x :: vi j :: vr r :: st) M Q = WP d 30 79 [l0, l1, l2, l3] (st) (sI M r (ix j) x) Q := w_iast mC_30 d30_78 hk hj h1
theorem d30_79 : decode cX4_become 79 = .ok (.goto 46, 3) := by decide +kernel
theorem k30_79 {d : Nat} {l0 l1 l2 l3 : Option PV} {st : List PV} {M : Mem} {Q : Option PV → Mem → Prop} : WP d 30 79 [l0, l1, l2, l3] (st) M Q = WP d 30 125 [l0, l1, l2, l3] (st) M Q := w_goto mC_30 d30_79 (by decide)
theorem d30_82 : decode cX4_become 82 = .ok (.aload_n 0, 1) := by decide +kernel
theorem k30_82 {d x : Nat} {l1 l2 l3 : Option PV} {st : List PV} {M : Mem} {Q : Option PV → Mem → Prop} : WP d 30 82 [some (vr x), l1, l2, l3] (st) M Q = WP d 30 83 [some (vr x), l1, l2, l3] (vr x :: st) M Q := w1 mC_30 d30_82 rfl rfl
theorem d30_83 : decode cX4_become 83 = .ok (.getfield 21, 3) := by decide +kernel
theorem k30_83 {d : Nat} {l0 l1 l2 l3 : Option PV} {st : List PV} {M : Mem} {Q : Option PV → Mem → Prop} {r : Nat} (hk : mK M r = 4) : WP d 30 83 [l0, l1, l2, l3] (vr r :: st) M Q = WP d 30 86 [l0, l1, l2, l3] (vr (mR M r 3) :: st) M Q := w_getr mC_30 d30_83 fE_4_21 rfl (by rw [hk]; rfl)
theorem d30_86 : decode cX4_become 86 = .ok (.iload_n 1, 1) := by decide +kernel
theorem k30_86 {d : Nat} {x : Int32} {l0 l2 l3 : Option PV} {st : List PV} {M : Mem} {Q : Option PV → Mem → Prop} : WP d 30 86 [l0, some (vi x), l2, l3] (st) M Q = WP d 30 87 [l0, some (vi x), l2, l3] (vi x :: st) M Q := w1 mC_30 d30_86 rfl rfl
theorem d30_87 : decode cX4_become 87 = .ok (.iload_n 3, 1) := by decide +kernel
theorem k30_87 {d : Nat} {x : Int32} {l0 l1 l2 : Option PV} {st : List PV} {M : Mem} {Q : Option PV → Mem → Prop} : WP d 30 87 [l0, l1, l2, some (vi x)] (st) M Q = WP d 30 88 [l0, l1, l2, some (vi x)] (vi x :: st) M Q := w1 mC_30 d30_87 rfl rfl
theorem d30_88 : decode cX4_become 88 = .ok (.iastore, 1) := by decide +kernel
theorem k30_88 {d : Nat} {l0 l1 l2 l3 : Option PV} {st : List PV} {M : Mem} {Q : Option PV → Mem → Prop} {r : Nat} {j x : Int32} (hk : mK M r = 13) (hj : inb j (mN M r)) (h1 : r ≠ 1) : WP d 30 88 [l0, l1, l2, l3] (vi x :: vi j :: vr r :: st) M Q = WP d 30 89 [l0, l1, l2, l3] (st) (sI M r (ix j) x) Q := w_iast mC_30 d30_88 hk hj h1
theorem d30_89 : decode cX4_become 89 = .ok (.goto 36, 3) := by decide +kernel
theorem k30_89 {d : Nat} {l0 l1 l2 l3 : Option PV} {st : List PV} {M : Mem} {Q : Option PV → Mem → Prop} : WP d 30 89 [l0, l1, l2, l3] (st) M Q = WP d 30 125 [l0, l1, l2, l3] (st) M Q := w_goto mC_30 d30_89 (by decide)
theorem d30_92 : decode cX4_become 92 = .ok (.aload_n 0, 1) := by decide +kernel
theorem k30_92 {d x : Nat} {l1 l2 l3 : Option PV} {st : List PV} {M : Mem} {Q : Option PV → Mem → Prop} : WP d 30 92 [some (vr x), l1, l2, l3] (st) M Q = WP d 30 93 [some (vr x), l1, l2, l3] (vr x :: st) M Q := w1 mC_30 d30_92 rfl rfl
theorem d30_93 : decode cX4_become 93 = .ok (.getfield 24, 3) := by decide +kernel
theorem k30_93 {d : Nat} {l0 l1 l2 l3 : Option PV} {st : List PV} {M : Mem} {Q : Option PV → Mem → Prop} {r : Nat} (hk : mK M r = 4) : WP d 30 93 [l0, l1, l2, l3] (vr r :: st) M Q = WP d 30 96 [l0, l1, l2, l3] (vr (mR M r 4) :: st) M Q := w_getr mC_30 d30_93 fE_4_24 rfl (by rw [hk]; rfl)
theorem d30_96 : decode cX4_become 96 = .ok (.iload_n 1, 1) := by decide +kernel
theorem k30_96 {d : Nat} {x : Int32} {l0 l2 l3 : Option PV} {st : List PV} {M : Mem} {Q : Option PV → Mem → Prop} : WP d 30 96 [l0, some (vi x), l2, l3] (st) M Q = WP d 30 97 [l0, some (vi x), l2, l3] (vi x :: st) M Q := w1 mC_30 d30_96 rfl rfl
theorem d30_97 : decode cX4_become 97 = .ok (.iload_n 3, 1) := by decide +kernel
theorem k30_97 {d : Nat} {x : Int32} {l0 l1 l2 : Option PV} {st : List PV} {M : Mem} {Q : Option PV → Mem → Prop} : WP d 30 97 [l0, l1, l2, some (vi x)] (st) M Q = WP d 30 98 [l0, l1, l2, some (vi x)] (vi x :: st) M Q := w1 mC_30 d30_97 rfl rfl
theorem d30_98 : decode cX4_become 98 = .ok (.iastore, 1) := by decide +kernel
theorem k30_98 {d : Nat} {l0 l1 l2 l3 : Option PV} {st : List PV} {M : Mem} {Q : Option PV → Mem → Prop} {r : Nat} {j x : Int32} (hk : mK M r = 13) (hj : inb j (mN M r)) (h1 : r ≠ 1) : WP d 30 98 [l0, l1, l2, l3] (vi x :: vi j :: vr r :: st) M Q = WP d 30 99 [l0, l1, l2, l3] (st) (sI M r (ix j) x) Q := w_iast mC_30 d30_98 hk hj h1
theorem d30_99 : decode cX4_become 99 = .ok (.goto 26, 3) := by decide +kernel
theorem k30_99 {d : Nat} {l0 l1 l2 l3 : Option PV} {st : List PV} {M : Mem} {Q : Option PV → Mem → Prop} : WP d 30 99 [l0, l1, l2, l3] (st) M Q = WP d 30 125 [l0, l1, l2, l3] (st) M Q := w_goto mC_30 d30_99 (by decide)
theorem d30_102 : decode cX4_become 102 = .ok (.aload_n 0, 1) := by decide +kernel
theorem k30_102 {d x : Nat} {l1 l2 l3 : Option PV} {st : List PV} {M : Mem} {Q : Option PV → Mem → Prop} : WP d 30 102 [some (vr x), l1, l2, l3] (st) M Q = WP d 30 103 [some (vr x), l1, l2, l3] (vr x :: st) M Q := w1 mC_30 d30_102 rfl rfl
theorem d30_103 : decode cX4_become 103 = .ok (.getfield 27, 3) := by decide +kernel
theorem k30_103 {d : Nat} {l0 l1 l2 l3 : Option PV} {st : List PV} {M : Mem} {Q : Option PV → Mem → Prop} {r : Nat} (hk : mK M r = 4) : WP d 30 103 [l0, l1, l2, l3] (vr r :: st) M Q = WP d 30 106 [l0, l1, l2, l3] (vr (mR M r 5) :: st) M Q := w_getr mC_30 d30_103 fE_4_27 rfl (by rw [hk]; rfl)
theorem d30_106 : decode cX4_become 106 = .ok (.iload_n 1, 1) := by decide +kernel
theorem k30_106 {d : Nat} {x : Int32} {l0 l2 l3 : Option PV} {st : List PV} {M : Mem} {Q : Option PV → Mem → Prop} : WP d 30 106 [l0, some (vi x), l2, l3] (st) M Q = WP d 30 107 [l0, some (vi x), l2, l3] (vi x :: st) M Q := w1 mC_30 d30_106 rfl rfl
theorem d30_107 : decode cX4_become 107 = .ok (.iload_n 3, 1) := by decide +kernel
theorem k30_107 {d : Nat} {x : Int32} {l0 l1 l2 : Option PV} {st : List PV} {M : Mem} {Q : Option PV → Mem → Prop} : WP d 30 107 [l0, l1, l2, some (vi x)] (st) M Q = WP d 30 108 [l0, l1, l2, some (vi x)] (vi x :: st) M Q := w1 mC_30 d30_107 rfl rfl
theorem d30_108 : decode cX4_become 108 = .ok (.iastore, 1) := by decide +kernel
theorem k30_108 {d : Nat} {l0 l1 l2 l3 : Option PV} {st : List PV} {M : Mem} {Q : Option PV → Mem → Prop} {r : Nat} {j x : Int32} (hk : mK M r = 13) (hj : inb j (mN M r)) (h1 : r ≠ 1) : WP d 30 108 [l0, l1, l2, l3] (vi x :: vi j :: vr r :: st) M Q = WP d 30 109 [l0, l1, l2, l3] (st) (sI M r (ix j) x) Q := w_iast mC_30 d30_108 hk hj h1
theorem d30_109 : decode cX4_become 109 = .ok (.goto 16, 3) := by decide +kernel
theorem k30_109 {d : Nat} {l0 l1 l2 l3 : Option PV} {st : List PV} {M : Mem} {Q : Option PV → Mem → Prop} : WP d 30 109 [l0, l1, l2, l3] (st) M Q = WP d 30 125 [l0, l1, l2, l3] (st) M Q := w_goto mC_30 d30_109 (by decide)
theorem d30_112 : decode cX4_become 112 = .ok (.aload_n 0, 1) := by decide +kernel
theorem k30_112 {d x : Nat} {l1 l2 l3 : Option PV} {st : List PV} {M : Mem} {Q : Option PV → Mem → Prop} : WP d 30 112 [some (vr x), l1, l2, l3] (st) M Q = WP d 30 113 [some (vr x), l1, l2, l3] (vr x :: st) M Q := w1 mC_30 d30_112 rfl rfl
theorem d30_113 : decode cX4_become 113 = .ok (.iload_n 3, 1) := by decide +kernel
theorem k30_113 {d : Nat} {x : Int32} {l0 l1 l2 : Option PV} {st : List PV} {M : Mem} {Q : Option PV → Mem → Prop} : WP d 30 113 [l0, l1, l2, some (vi x)] (st) M Q = WP d 30 114 [l0, l1, l2, some (vi x)] (vi x :: st) M Q := w1 mC_30 d30_113 rfl rfl
theorem d30_114 : decode cX4_become 114 = .ok (.putfield 33, 3) := by decide +kernel
theorem k30_114 {d : Nat} {l0 l1 l2 l3 : Option PV} {st : List PV} {M : Mem} {Q : Option PV → Mem → Prop} {r : Nat} {x : Int32} (hk : mK M r = 4) : WP d 30 114 [l0, l1, l2, l3] (vi x :: vr r :: st) M Q = WP d 30 117 [l0, l1, l2, l3] (st) (sI M r 9 x) Q := w_put mC_30 d30_114 fE_4_33 (by decide +kernel) (by rw [hk]; rfl)
theorem d30_117 : decode cX4_become 117 = .ok (.goto 8, 3) := by decide +kernel
theorem k30_117 {d : Nat} {l0 l1 l2 l3 : Option PV} {st : List PV} {M : Mem} {Q : Option PV → Mem → Prop} : WP d 30 117 [l0, l1, l2, l3] (st) M Q = WP d 30 125 [l0, l1, l2, l3] (st) M Q := w_goto mC_30 d30_117 (by decide)
theorem d30_120 : decode cX4_become 120 = .ok (.aload_n 0, 1) := by decide +kernel
theorem k30_120 {d x : Nat} {l1 l2 l3 : Option PV} {st : List PV} {M : Mem} {Q : Option PV → Mem → Prop} : WP d 30 120 [some (vr x), l1, l2, l3] (st) M Q = WP d 30 121 [some (vr x), l1, l2, l3] (vr x :: st) M Q := w1 mC_30 d30_120 rfl rfl
theorem d30_121 : decode cX4_become 121 = .ok (.iload_n 3, 1) := by decide +kernel
theorem k30_121 {d : Nat} {x : Int32} {l0 l1 l2 : Option PV} {st : List PV} {M : Mem} {Q : Option PV → Mem → Prop} : WP d 30 121 [l0, l1, l2, some (vi x)] (st) M Q = WP d 30 122 [l0, l1, l2, some (vi x)] (vi x :: st) M Q := w1 mC_30 d30_121 rfl rfl
theorem d30_122 : decode cX4_become 122 = .ok (.putfield 54, 3) := by decide +kernel
theorem k30_122 {d : Nat} {l0 l1 l2 l3 : Option PV} {st : List PV} {M : Mem} {Q : Option PV → Mem → Prop} {r : Nat} {x : Int32} (hk : mK M r = 4) : WP d 30 122 [l0, l1, l2, l3] (vi x :: vr r :: st) M Q = WP d 30 125 [l0, l1, l2, l3] (st) (sI M r 10 x) Q := w_put mC_30 d30_122 fE_4_54 (by decide +kernel) (by rw [hk]; rfl)
theorem d30_125 : decode cX4_become 125 = .ok (.return_, 1) := by decide +kernel
theorem k30_125 {d : Nat} {l0 l1 l2 l3 : Option PV} {M : Mem} {Q : Option PV → Mem → Prop} : WP d 30 125 [l0, l1, l2, l3] ([]) M Q = Q none M := w_vret mC_30 d30_125 rfl
theorem d31_0 : decode cX4_copy 0 = .ok (.aload_n 0, 1) := by decide +kernel
theorem k31_0 {d x : Nat} {l1 : Option PV} {st : List PV} {M : Mem} {Q : Option PV → Mem → Prop} : WP d 31 0 [some (vr x), l1] (st) M Q = WP d 31 1 [some (vr x), l1] (vr x :: st) M Q := w1 mC_31 d31_0 rfl rfl
theorem d31_1 : decode cX4_copy 1 = .ok (.aload_n 1, 1) := by decide +kernel
theorem k31_1 {d x : Nat} {l0 : Option PV} {st : List PV} {M : Mem} {Q : Option PV → Mem → Prop} : WP d 31 1 [l0, some (vr x)] (st) M Q = WP d 31 2 [l0, some (vr x)] (vr x :: st) M Q := w1 mC_31 d31_1 rfl rfl
theorem d31_2 : decode cX4_copy 2 = .ok (.getfield 37, 3) := by decide +kernel
theorem k31_2 {d : Nat} {l0 l1 : Option PV} {st : List PV} {M : Mem} {Q : Option PV → Mem → Prop} {r : Nat} (hk : mK M r = 4) : WP d 31 2 [l0, l1] (vr r :: st) M Q = WP d 31 5 [l0, l1] (vi (mI M r 7) :: st) M Q := w_get mC_31 d31_2 fE_4_37 rfl (by rw [hk]; rfl)
theorem d31_5 : decode cX4_copy 5 = .ok (.putfield 37, 3) := by decide +kernel
theorem k31_5 {d : Nat} {l0 l1 : Option PV} {st : List PV} {M : Mem} {Q : Option PV → Mem → Prop} {r : Nat} {x : Int32} (hk : mK M r = 4) : WP d 31 5 [l0, l1] (vi x :: vr r :: st) M Q = WP d 31 8 [l0, l1] (st) (sI M r 7 x) Q := w_put mC_31 d31_5 fE_4_37 (by decide +kernel) (by rw [hk]; rfl)
theorem d31_8 : decode cX4_copy 8 = .ok (.aload_n 0, 1) := by decide +kernel
theorem k31_8 {d x : Nat} {l1 : Option PV} {st : List PV} {M : Mem} {Q : Option PV → Mem → Prop} : WP d 31 8 [some (vr x), l1] (st) M Q = WP d 31 9 [some (vr x), l1] (vr x :: st) M Q := w1 mC_31 d31_8 rfl rfl
theorem d31_9 : decode cX4_copy 9 = .ok (.aload_n 1, 1) := by decide +kernel
theorem k31_9 {d x : Nat} {l0 : Option PV} {st : List PV} {M : Mem} {Q : Option PV → Mem → Prop} : WP d 31 9 [l0, some (vr x)] (st) M Q = WP d 31 10 [l0, some (vr x)] (vr x :: st) M Q := w1 mC_31 d31_9 rfl rfl
theorem d31_10 : decode cX4_copy 10 = .ok (.getfield 44, 3) := by decide +kernel
theorem k31_10 {d : Nat} {l0 l1 : Option PV} {st : List PV} {M : Mem} {Q : Option PV → Mem → Prop} {r : Nat} (hk : mK M r = 4) : WP d 31 10 [l0, l1] (vr r :: st) M Q = WP d 31 13 [l0, l1] (vi (mI M r 8) :: st) M Q := w_get mC_31 d31_10 fE_4_44 rfl (by rw [hk]; rfl)
theorem d31_13 : decode cX4_copy 13 = .ok (.putfield 44, 3) := by decide +kernel
theorem k31_13 {d : Nat} {l0 l1 : Option PV} {st : List PV} {M : Mem} {Q : Option PV → Mem → Prop} {r : Nat} {x : Int32} (hk : mK M r = 4) : WP d 31 13 [l0, l1] (vi x :: vr r :: st) M Q = WP d 31 16 [l0, l1] (st) (sI M r 8 x) Q := w_put mC_31 d31_13 fE_4_44 (by decide +kernel) (by rw [hk]; rfl)
theorem d31_16 : decode cX4_copy 16 = .ok (.aload_n 0, 1) := by decide +kernel
theorem k31_16 {d x : Nat} {l1 : Option PV} {st : List PV} {M : Mem} {Q : Option PV → Mem → Prop} : WP d 31 16 [some (vr x), l1] (st) M Q = WP d 31 17 [some (vr x), l1] (vr x :: st) M Q := w1 mC_31 d31_16 rfl rfl
theorem d31_17 : decode cX4_copy 17 = .ok (.aload_n 1, 1) := by decide +kernel
theorem k31_17 {d x : Nat} {l0 : Option PV} {st : List PV} {M : Mem} {Q : Option PV → Mem → Prop} : WP d 31 17 [l0, some (vr x)] (st) M Q = WP d 31 18 [l0, some (vr x)] (vr x :: st) M Q := w1 mC_31 d31_17 rfl rfl
theorem d31_18 : decode cX4_copy 18 = .ok (.getfield 33, 3) := by decide +kernel
theorem k31_18 {d : Nat} {l0 l1 : Option PV} {st : List PV} {M : Mem} {Q : Option PV → Mem → Prop} {r : Nat} (hk : mK M r = 4) : WP d 31 18 [l0, l1] (vr r :: st) M Q = WP d 31 21 [l0, l1] (vi (mI M r 9) :: st) M Q := w_get mC_31 d31_18 fE_4_33 rfl (by rw [hk]; rfl)
theorem d31_21 : decode cX4_copy 21 = .ok (.putfield 33, 3) := by decide +kernel
theorem k31_21 {d : Nat} {l0 l1 : Option PV} {st : List PV} {M : Mem} {Q : Option PV → Mem → Prop} {r : Nat} {x : Int32} (hk : mK M r = 4) : WP d 31 21 [l0, l1] (vi x :: vr r :: st) M Q = WP d 31 24 [l0, l1] (st) (sI M r 9 x) Q := w_put mC_31 d31_21 fE_4_33 (by decide +kernel) (by rw [hk]; rfl)
theorem d31_24 : decode cX4_copy 24 = .ok (.aload_n 1, 1) := by decide +kernel
theorem k31_24 {d x : Nat} {l0 : Option PV} {st : List PV} {M : Mem} {Q : Option PV → Mem → Prop} : WP d 31 24 [l0, some (vr x)] (st) M Q = WP d 31 25 [l0, some (vr x)] (vr x :: st) M Q := w1 mC_31 d31_24 rfl rfl
theorem d31_25 : decode cX4_copy 25 = .ok (.getfield 9, 3) := by decide +kernel
theorem k31_25 {d : Nat} {l0 l1 : Option PV} {st : List PV} {M : Mem} {Q : Option PV → Mem → Prop} {r : Nat} (hk : mK M r = 4) : WP d 31 25 [l0, l1] (vr r :: st) M Q = WP d 31 28 [l0, l1] (vr (mR M r 0) :: st) M Q := w_getr mC_31 d31_25 fE_4_9 rfl (by rw [hk]; rfl)
theorem d31_28 : decode cX4_copy 28 = .ok (.iconst 0, 1) := by decide +kernel
theorem k31_28 {d : Nat} {l0 l1 : Option PV} {st : List PV} {M : Mem} {Q : Option PV → Mem → Prop} : WP d 31 28 [l0, l1] (st) M Q = WP d 31 29 [l0, l1] (vi 0 :: st) M Q := w_iconst mC_31 d31_28 (by decide)
theorem d31_29 : decode cX4_copy 29 = .ok (.aload_n 0, 1) := by decide +kernel
theorem k31_29 {d x : Nat} {l1 : Option PV} {st : List PV} {M : Mem} {Q : Option PV → Mem → Prop} : WP d 31 29 [some (vr x), l1] (st) M Q = WP d 31 30 [some (vr x), l1] (vr x :: st) M Q := w1 mC_31 d31_29 rfl rfl
theorem d31_30 : decode cX4_copy 30 = .ok (.getfield 9, 3) := by decide +kernel
theorem k31_30 {d : Nat} {l0 l1 : Option PV} {st : List PV} {M : Mem} {Q : Option PV → Mem → Prop} {r : Nat} (hk : mK M r = 4) : WP d 31 30 [l0, l1] (vr r :: st) M Q = WP d 31 33 [l0, l1] (vr (mR M r 0) :: st) M Q := w_getr mC_31 d31_30 fE_4_9 rfl (by rw [hk]; rfl)
theorem d31_33 : decode cX4_copy 33 = .ok (.iconst 0, 1) := by decide +kernel
theorem k31_33 {d : Nat} {l0 l1 : Option PV} {st : List PV} {M : Mem} {Q : Option PV → Mem → Prop} : WP d 31 33 [l0, l1] (st) M Q = WP d 31 34 [l0, l1] (vi 0 :: st) M Q := w_iconst mC_31 d31_33 (by decide)
theorem d31_34 : decode cX4_copy 34 = .ok (.bipush 8, 2) := by decide +kernel
theorem k31_34 {d : Nat} {l0 l1 : Option PV} {st : List PV} {M : Mem} {Q : Option PV → Mem → Prop} : WP d 31 34 [l0, l1] (st) M Q = WP d 31 36 [l0, l1] (vi 8 :: st) M Q := w_bipush mC_31 d31_34 (by decide)
theorem d31_36 : decode cX4_copy 36 = .ok (.invokestatic 61, 3) := by decide +kernel
theorem k31_36 {d : Nat} {l0 l1 : Option PV} {st : List PV} {M : Mem} {Q : Option PV → Mem → Prop} {a b : Nat} {sp dp q : Int32} (hl : szL st ≤ 8) (h1 : ¬ sp < 0 ∧ ¬ dp < 0 ∧ ¬ q < 0 ∧ ix sp + ix q ≤ mN M b ∧ ix dp + ix q ≤ mN M a ∧ a ≠ 1 ∧ b ≠ 1) (hk : mK M a = 13) (hk2 : mK M b = 13) : WP d 31 36 [l0, l1] (vi q :: vi dp :: vr a :: vi sp :: vr b :: st) M Q = WP d 31 39 [l0, l1] (st) (cI M b (ix sp) a (ix dp) (ix q)) Q := w_copyI mC_31 d31_36 rfl rfl rfl hl h1 hk hk2
theorem k31_36l {d : Nat} {l0 l1 : Option PV} {st : List PV} {M : Mem} {Q : Option PV → Mem → Prop} {a b : Nat} {sp dp q : Int32} (hl : szL st ≤ 8) (h1 : ¬ sp < 0 ∧ ¬ dp < 0 ∧ ¬ q < 0 ∧ ix sp + ix q ≤ mN M b ∧ ix dp + ix q ≤ mN M a ∧ a ≠ 1 ∧ b ≠ 1) (hk : mK M a = 14) (hk2 : mK M b = 14) : WP d 31 36 [l0, l1] (vi q :: vi dp :: vr a :: vi sp :: vr b :: st) M Q = WP d 31 39 [l0, l1] (st) (cJ M b (ix sp) a (ix dp) (ix q)) Q := w_copyJ mC_31 d31_36 rfl rfl rfl hl h1 hk hk2
theorem k31_36b {d : Nat} {l0 l1 : Option PV} {st : List PV} {M : Mem} {Q : Option PV → Mem → Prop} {a b : Nat} {sp dp q : Int32} (hl : szL st ≤ 8) (h1 : ¬ sp < 0 ∧ ¬ dp < 0 ∧ ¬ q < 0 ∧ ix sp + ix q ≤ mN M b ∧ ix dp + ix q ≤ mN M a ∧ a ≠ 1 ∧ b ≠ 1) (hk : mK M a = 18) (hk2 : mK M b = 18 ∨ mK M b = 19) : WP d 31 36 [l0, l1] (vi q :: vi dp :: vr a :: vi sp :: vr b :: st) M Q = WP d 31 39 [l0, l1] (st) (cI M b (ix sp) a (ix dp) (ix q)) Q := w_copyB mC_31 d31_36 rfl rfl rfl hl h1 hk hk2
theorem d31_39 : decode cX4_copy 39 = .ok (.aload_n 1, 1) := by decide +kernel
theorem k31_39 {d x : Nat} {l0 : Option PV} {st : List PV} {M : Mem} {Q : Option PV → Mem → Prop} : WP d 31 39 [l0, some (vr x)] (st) M Q = WP d 31 40 [l0, some (vr x)] (vr x :: st) M Q := w1 mC_31 d31_39 rfl rfl
theorem d31_40 : decode cX4_copy 40 = .ok (.getfield 21, 3) := by decide +kernel
theorem k31_40 {d : Nat} {l0 l1 : Option PV} {st : List PV} {M : Mem} {Q : Option PV → Mem → Prop} {r : Nat} (hk : mK M r = 4) : WP d 31 40 [l0, l1] (vr r :: st) M Q = WP d 31 43 [l0, l1] (vr (mR M r 3) :: st) M Q := w_getr mC_31 d31_40 fE_4_21 rfl (by rw [hk]; rfl)
theorem d31_43 : decode cX4_copy 43 = .ok (.iconst 0, 1) := by decide +kernel
theorem k31_43 {d : Nat} {l0 l1 : Option PV} {st : List PV} {M : Mem} {Q : Option PV → Mem → Prop} : WP d 31 43 [l0, l1] (st) M Q = WP d 31 44 [l0, l1] (vi 0 :: st) M Q := w_iconst mC_31 d31_43 (by decide)
theorem d31_44 : decode cX4_copy 44 = .ok (.aload_n 0, 1) := by decide +kernel
theorem k31_44 {d x : Nat} {l1 : Option PV} {st : List PV} {M : Mem} {Q : Option PV → Mem → Prop} : WP d 31 44 [some (vr x), l1] (st) M Q = WP d 31 45 [some (vr x), l1] (vr x :: st) M Q := w1 mC_31 d31_44 rfl rfl
theorem d31_45 : decode cX4_copy 45 = .ok (.getfield 21, 3) := by decide +kernel
theorem k31_45 {d : Nat} {l0 l1 : Option PV} {st : List PV} {M : Mem} {Q : Option PV → Mem → Prop} {r : Nat} (hk : mK M r = 4) : WP d 31 45 [l0, l1] (vr r :: st) M Q = WP d 31 48 [l0, l1] (vr (mR M r 3) :: st) M Q := w_getr mC_31 d31_45 fE_4_21 rfl (by rw [hk]; rfl)
theorem d31_48 : decode cX4_copy 48 = .ok (.iconst 0, 1) := by decide +kernel
theorem k31_48 {d : Nat} {l0 l1 : Option PV} {st : List PV} {M : Mem} {Q : Option PV → Mem → Prop} : WP d 31 48 [l0, l1] (st) M Q = WP d 31 49 [l0, l1] (vi 0 :: st) M Q := w_iconst mC_31 d31_48 (by decide)
theorem d31_49 : decode cX4_copy 49 = .ok (.bipush 8, 2) := by decide +kernel
theorem k31_49 {d : Nat} {l0 l1 : Option PV} {st : List PV} {M : Mem} {Q : Option PV → Mem → Prop} : WP d 31 49 [l0, l1] (st) M Q = WP d 31 51 [l0, l1] (vi 8 :: st) M Q := w_bipush mC_31 d31_49 (by decide)
theorem d31_51 : decode cX4_copy 51 = .ok (.invokestatic 61, 3) := by decide +kernel
theorem k31_51 {d : Nat} {l0 l1 : Option PV} {st : List PV} {M : Mem} {Q : Option PV → Mem → Prop} {a b : Nat} {sp dp q : Int32} (hl : szL st ≤ 8) (h1 : ¬ sp < 0 ∧ ¬ dp < 0 ∧ ¬ q < 0 ∧ ix sp + ix q ≤ mN M b ∧ ix dp + ix q ≤ mN M a ∧ a ≠ 1 ∧ b ≠ 1) (hk : mK M a = 13) (hk2 : mK M b = 13) : WP d 31 51 [l0, l1] (vi q :: vi dp :: vr a :: vi sp :: vr b :: st) M Q = WP d 31 54 [l0, l1] (st) (cI M b (ix sp) a (ix dp) (ix q)) Q := w_copyI mC_31 d31_51 rfl rfl rfl hl h1 hk hk2
theorem k31_51l {d : Nat} {l0 l1 : Option PV} {st : List PV} {M : Mem} {Q : Option PV → Mem → Prop} {a b : Nat} {sp dp q : Int32} (hl : szL st ≤ 8) (h1 : ¬ sp < 0 ∧ ¬ dp < 0 ∧ ¬ q < 0 ∧ ix sp + ix q ≤ mN M b ∧ ix dp + ix q ≤ mN M a ∧ a ≠ 1 ∧ b ≠ 1) (hk : mK M a = 14) (hk2 : mK M b = 14) : WP d 31 51 [l0, l1] (vi q :: vi dp :: vr a :: vi sp :: vr b :: st) M Q = WP d 31 54 [l0, l1] (st) (cJ M b (ix sp) a (ix dp) (ix q)) Q := w_copyJ mC_31 d31_51 rfl rfl rfl hl h1 hk hk2
theorem k31_51b {d : Nat} {l0 l1 : Option PV} {st : List PV} {M : Mem} {Q : Option PV → Mem → Prop} {a b : Nat} {sp dp q : Int32} (hl : szL st ≤ 8) (h1 : ¬ sp < 0 ∧ ¬ dp < 0 ∧ ¬ q < 0 ∧ ix sp + ix q ≤ mN M b ∧ ix dp + ix q ≤ mN M a ∧ a ≠ 1 ∧ b ≠ 1) (hk : mK M a = 18) (hk2 : mK M b = 18 ∨ mK M b = 19) : WP d 31 51 [l0, l1] (vi q :: vi dp :: vr a :: vi sp :: vr b :: st) M Q = WP d 31 54 [l0, l1] (st) (cI M b (ix sp) a (ix dp) (ix q)) Q := w_copyB mC_31 d31_51 rfl rfl rfl hl h1 hk hk2
theorem d31_54 : decode cX4_copy 54 = .ok (.aload_n 0, 1) := by decide +kernel
theorem k31_54 {d x : Nat} {l1 : Option PV} {st : List PV} {M : Mem} {Q : Option PV → Mem → Prop} : WP d 31 54 [some (vr x), l1] (st) M Q = WP d 31 55 [some (vr x), l1] (vr x :: st) M Q := w1 mC_31 d31_54 rfl rfl
theorem d31_55 : decode cX4_copy 55 = .ok (.aload_n 1, 1) := by decide +kernel
theorem k31_55 {d x : Nat} {l0 : Option PV} {st : List PV} {M : Mem} {Q : Option PV → Mem → Prop} : WP d 31 55 [l0, some (vr x)] (st) M Q = WP d 31 56 [l0, some (vr x)] (vr x :: st) M Q := w1 mC_31 d31_55 rfl rfl
theorem d31_56 : decode cX4_copy 56 = .ok (.invokevirtual 67, 3) := by decide +kernel
theorem k31_56 {d : Nat} {l0 l1 : Option PV} {st : List PV} {M : Mem} {Q : Option PV → Mem → Prop} {a0 : Nat} {r : Nat} (hl : szL st ≤ 8) (hk : mK M r = 4) : WP (d + 1) 31 56 [l0, l1] (vr a0 :: vr r :: st) M Q = WP d 32 0 [some (vr r), some (vr a0)] [] M (fun v M' => WP (d + 1) 31 59 [l0, l1] (psh v st) M' Q) := w_callV mC_31 d31_56 (ci := 4) rfl rfl rfl (Nat.le_of_ble_eq_true rfl) (by decide) rfl hl (Or.inl hk)
theorem d31_59 : decode cX4_copy 59 = .ok (.return_, 1) := by decide +kernel
theorem k31_59 {d : Nat} {l0 l1 : Option PV} {M : Mem} {Q : Option PV → Mem → Prop} : WP d 31 59 [l0, l1] ([]) M Q = Q none M := w_vret mC_31 d31_59 rfl
theorem d32_0 : decode cX4_layBack 0 = .ok (.aload_n 1, 1) := by decide +kernel
theorem k32_0 {d x : Nat} {l0 : Option PV} {st : List PV} {M : Mem} {Q : Option PV → Mem → Prop} : WP d 32 0 [l0, some (vr x)] (st) M Q = WP d 32 1 [l0, some (vr x)] (vr x :: st) M Q := w1 mC_32 d32_0 rfl rfl
theorem d32_1 : decode cX4_layBack 1 = .ok (.getfield 15, 3) := by decide +kernel
theorem k32_1 {d : Nat} {l0 l1 : Option PV} {st : List PV} {M : Mem} {Q : Option PV → Mem → Prop} {r : Nat} (hk : mK M r = 4) : WP d 32 1 [l0, l1] (vr r :: st) M Q = WP d 32 4 [l0, l1] (vr (mR M r 1) :: st) M Q := w_getr mC_32 d32_1 fE_4_15 rfl (by rw [hk]; rfl)
theorem d32_4 : decode cX4_layBack 4 = .ok (.iconst 0, 1) := by decide +kernel
theorem k32_4 {d : Nat} {l0 l1 : Option PV} {st : List PV} {M : Mem} {Q : Option PV → Mem → Prop} : WP d 32 4 [l0, l1] (st) M Q = WP d 32 5 [l0, l1] (vi 0 :: st) M Q := w_iconst mC_32 d32_4 (by decide)
theorem d32_5 : decode cX4_layBack 5 = .ok (.aload_n 0, 1) := by decide +kernel
theorem k32_5 {d x : Nat} {l1 : Option PV} {st : List PV} {M : Mem} {Q : Option PV → Mem → Prop} : WP d 32 5 [some (vr x), l1] (st) M Q = WP d 32 6 [some (vr x), l1] (vr x :: st) M Q := w1 mC_32 d32_5 rfl rfl
theorem d32_6 : decode cX4_layBack 6 = .ok (.getfield 15, 3) := by decide +kernel
theorem k32_6 {d : Nat} {l0 l1 : Option PV} {st : List PV} {M : Mem} {Q : Option PV → Mem → Prop} {r : Nat} (hk : mK M r = 4) : WP d 32 6 [l0, l1] (vr r :: st) M Q = WP d 32 9 [l0, l1] (vr (mR M r 1) :: st) M Q := w_getr mC_32 d32_6 fE_4_15 rfl (by rw [hk]; rfl)
theorem d32_9 : decode cX4_layBack 9 = .ok (.iconst 0, 1) := by decide +kernel
theorem k32_9 {d : Nat} {l0 l1 : Option PV} {st : List PV} {M : Mem} {Q : Option PV → Mem → Prop} : WP d 32 9 [l0, l1] (st) M Q = WP d 32 10 [l0, l1] (vi 0 :: st) M Q := w_iconst mC_32 d32_9 (by decide)
theorem d32_10 : decode cX4_layBack 10 = .ok (.aload_n 1, 1) := by decide +kernel
theorem k32_10 {d x : Nat} {l0 : Option PV} {st : List PV} {M : Mem} {Q : Option PV → Mem → Prop} : WP d 32 10 [l0, some (vr x)] (st) M Q = WP d 32 11 [l0, some (vr x)] (vr x :: st) M Q := w1 mC_32 d32_10 rfl rfl
theorem d32_11 : decode cX4_layBack 11 = .ok (.getfield 37, 3) := by decide +kernel
theorem k32_11 {d : Nat} {l0 l1 : Option PV} {st : List PV} {M : Mem} {Q : Option PV → Mem → Prop} {r : Nat} (hk : mK M r = 4) : WP d 32 11 [l0, l1] (vr r :: st) M Q = WP d 32 14 [l0, l1] (vi (mI M r 7) :: st) M Q := w_get mC_32 d32_11 fE_4_37 rfl (by rw [hk]; rfl)
theorem d32_14 : decode cX4_layBack 14 = .ok (.invokestatic 61, 3) := by decide +kernel
theorem k32_14 {d : Nat} {l0 l1 : Option PV} {st : List PV} {M : Mem} {Q : Option PV → Mem → Prop} {a b : Nat} {sp dp q : Int32} (hl : szL st ≤ 8) (h1 : ¬ sp < 0 ∧ ¬ dp < 0 ∧ ¬ q < 0 ∧ ix sp + ix q ≤ mN M b ∧ ix dp + ix q ≤ mN M a ∧ a ≠ 1 ∧ b ≠ 1) (hk : mK M a = 13) (hk2 : mK M b = 13) : WP d 32 14 [l0, l1] (vi q :: vi dp :: vr a :: vi sp :: vr b :: st) M Q = WP d 32 17 [l0, l1] (st) (cI M b (ix sp) a (ix dp) (ix q)) Q := w_copyI mC_32 d32_14 rfl rfl rfl hl h1 hk hk2
theorem k32_14l {d : Nat} {l0 l1 : Option PV} {st : List PV} {M : Mem} {Q : Option PV → Mem → Prop} {a b : Nat} {sp dp q : Int32} (hl : szL st ≤ 8) (h1 : ¬ sp < 0 ∧ ¬ dp < 0 ∧ ¬ q < 0 ∧ ix sp + ix q ≤ mN M b ∧ ix dp + ix q ≤ mN M a ∧ a ≠ 1 ∧ b ≠ 1) (hk : mK M a = 14) (hk2 : mK M b = 14) : WP d 32 14 [l0, l1] (vi q :: vi dp :: vr a :: vi sp :: vr b :: st) M Q = WP d 32 17 [l0, l1] (st) (cJ M b (ix sp) a (ix dp) (ix q)) Q := w_copyJ mC_32 d32_14 rfl rfl rfl hl h1 hk hk2
theorem k32_14b {d : Nat} {l0 l1 : Option PV} {st : List PV} {M : Mem} {Q : Option PV → Mem → Prop} {a b : Nat} {sp dp q : Int32} (hl : szL st ≤ 8) (h1 : ¬ sp < 0 ∧ ¬ dp < 0 ∧ ¬ q < 0 ∧ ix sp + ix q ≤ mN M b ∧ ix dp + ix q ≤ mN M a ∧ a ≠ 1 ∧ b ≠ 1) (hk : mK M a = 18) (hk2 : mK M b = 18 ∨ mK M b = 19) : WP d 32 14 [l0, l1] (vi q :: vi dp :: vr a :: vi sp :: vr b :: st) M Q = WP d 32 17 [l0, l1] (st) (cI M b (ix sp) a (ix dp) (ix q)) Q := w_copyB mC_32 d32_14 rfl rfl rfl hl h1 hk hk2
theorem d32_17 : decode cX4_layBack 17 = .ok (.aload_n 1, 1) := by decide +kernel
theorem k32_17 {d x : Nat} {l0 : Option PV} {st : List PV} {M : Mem} {Q : Option PV → Mem → Prop} : WP d 32 17 [l0, some (vr x)] (st) M Q = WP d 32 18 [l0, some (vr x)] (vr x :: st) M Q := w1 mC_32 d32_17 rfl rfl
theorem d32_18 : decode cX4_layBack 18 = .ok (.getfield 18, 3) := by decide +kernel
theorem k32_18 {d : Nat} {l0 l1 : Option PV} {st : List PV} {M : Mem} {Q : Option PV → Mem → Prop} {r : Nat} (hk : mK M r = 4) : WP d 32 18 [l0, l1] (vr r :: st) M Q = WP d 32 21 [l0, l1] (vr (mR M r 2) :: st) M Q := w_getr mC_32 d32_18 fE_4_18 rfl (by rw [hk]; rfl)
theorem d32_21 : decode cX4_layBack 21 = .ok (.iconst 0, 1) := by decide +kernel
theorem k32_21 {d : Nat} {l0 l1 : Option PV} {st : List PV} {M : Mem} {Q : Option PV → Mem → Prop} : WP d 32 21 [l0, l1] (st) M Q = WP d 32 22 [l0, l1] (vi 0 :: st) M Q := w_iconst mC_32 d32_21 (by decide)
theorem d32_22 : decode cX4_layBack 22 = .ok (.aload_n 0, 1) := by decide +kernel
theorem k32_22 {d x : Nat} {l1 : Option PV} {st : List PV} {M : Mem} {Q : Option PV → Mem → Prop} : WP d 32 22 [some (vr x), l1] (st) M Q = WP d 32 23 [some (vr x), l1] (vr x :: st) M Q := w1 mC_32 d32_22 rfl rfl
theorem d32_23 : decode cX4_layBack 23 = .ok (.getfield 18, 3) := by decide +kernel
theorem k32_23 {d : Nat} {l0 l1 : Option PV} {st : List PV} {M : Mem} {Q : Option PV → Mem → Prop} {r : Nat} (hk : mK M r = 4) : WP d 32 23 [l0, l1] (vr r :: st) M Q = WP d 32 26 [l0, l1] (vr (mR M r 2) :: st) M Q := w_getr mC_32 d32_23 fE_4_18 rfl (by rw [hk]; rfl)
theorem d32_26 : decode cX4_layBack 26 = .ok (.iconst 0, 1) := by decide +kernel
theorem k32_26 {d : Nat} {l0 l1 : Option PV} {st : List PV} {M : Mem} {Q : Option PV → Mem → Prop} : WP d 32 26 [l0, l1] (st) M Q = WP d 32 27 [l0, l1] (vi 0 :: st) M Q := w_iconst mC_32 d32_26 (by decide)
theorem d32_27 : decode cX4_layBack 27 = .ok (.aload_n 1, 1) := by decide +kernel
theorem k32_27 {d x : Nat} {l0 : Option PV} {st : List PV} {M : Mem} {Q : Option PV → Mem → Prop} : WP d 32 27 [l0, some (vr x)] (st) M Q = WP d 32 28 [l0, some (vr x)] (vr x :: st) M Q := w1 mC_32 d32_27 rfl rfl
theorem d32_28 : decode cX4_layBack 28 = .ok (.getfield 44, 3) := by decide +kernel
theorem k32_28 {d : Nat} {l0 l1 : Option PV} {st : List PV} {M : Mem} {Q : Option PV → Mem → Prop} {r : Nat} (hk : mK M r = 4) : WP d 32 28 [l0, l1] (vr r :: st) M Q = WP d 32 31 [l0, l1] (vi (mI M r 8) :: st) M Q := w_get mC_32 d32_28 fE_4_44 rfl (by rw [hk]; rfl)
theorem d32_31 : decode cX4_layBack 31 = .ok (.invokestatic 61, 3) := by decide +kernel
theorem k32_31 {d : Nat} {l0 l1 : Option PV} {st : List PV} {M : Mem} {Q : Option PV → Mem → Prop} {a b : Nat} {sp dp q : Int32} (hl : szL st ≤ 8) (h1 : ¬ sp < 0 ∧ ¬ dp < 0 ∧ ¬ q < 0 ∧ ix sp + ix q ≤ mN M b ∧ ix dp + ix q ≤ mN M a ∧ a ≠ 1 ∧ b ≠ 1) (hk : mK M a = 13) (hk2 : mK M b = 13) : WP d 32 31 [l0, l1] (vi q :: vi dp :: vr a :: vi sp :: vr b :: st) M Q = WP d 32 34 [l0, l1] (st) (cI M b (ix sp) a (ix dp) (ix q)) Q := w_copyI mC_32 d32_31 rfl rfl rfl hl h1 hk hk2
theorem k32_31l {d : Nat} {l0 l1 : Option PV} {st : List PV} {M : Mem} {Q : Option PV → Mem → Prop} {a b : Nat} {sp dp q : Int32} (hl : szL st ≤ 8) (h1 : ¬ sp < 0 ∧ ¬ dp < 0 ∧ ¬ q < 0 ∧ ix sp + ix q ≤ mN M b ∧ ix dp + ix q ≤ mN M a ∧ a ≠ 1 ∧ b ≠ 1) (hk : mK M a = 14) (hk2 : mK M b = 14) : WP d 32 31 [l0, l1] (vi q :: vi dp :: vr a :: vi sp :: vr b :: st) M Q = WP d 32 34 [l0, l1] (st) (cJ M b (ix sp) a (ix dp) (ix q)) Q := w_copyJ mC_32 d32_31 rfl rfl rfl hl h1 hk hk2
theorem k32_31b {d : Nat} {l0 l1 : Option PV} {st : List PV} {M : Mem} {Q : Option PV → Mem → Prop} {a b : Nat} {sp dp q : Int32} (hl : szL st ≤ 8) (h1 : ¬ sp < 0 ∧ ¬ dp < 0 ∧ ¬ q < 0 ∧ ix sp + ix q ≤ mN M b ∧ ix dp + ix q ≤ mN M a ∧ a ≠ 1 ∧ b ≠ 1) (hk : mK M a = 18) (hk2 : mK M b = 18 ∨ mK M b = 19) : WP d 32 31 [l0, l1] (vi q :: vi dp :: vr a :: vi sp :: vr b :: st) M Q = WP d 32 34 [l0, l1] (st) (cI M b (ix sp) a (ix dp) (ix q)) Q := w_copyB mC_32 d32_31 rfl rfl rfl hl h1 hk hk2
theorem d32_34 : decode cX4_layBack 34 = .ok (.aload_n 1, 1) := by decide +kernel
theorem k32_34 {d x : Nat} {l0 : Option PV} {st : List PV} {M : Mem} {Q : Option PV → Mem → Prop} : WP d 32 34 [l0, some (vr x)] (st) M Q = WP d 32 35 [l0, some (vr x)] (vr x :: st) M Q := w1 mC_32 d32_34 rfl rfl
theorem d32_35 : decode cX4_layBack 35 = .ok (.getfield 24, 3) := by decide +kernel
theorem k32_35 {d : Nat} {l0 l1 : Option PV} {st : List PV} {M : Mem} {Q : Option PV → Mem → Prop} {r : Nat} (hk : mK M r = 4) : WP d 32 35 [l0, l1] (vr r :: st) M Q = WP d 32 38 [l0, l1] (vr (mR M r 4) :: st) M Q := w_getr mC_32 d32_35 fE_4_24 rfl (by rw [hk]; rfl)
theorem d32_38 : decode cX4_layBack 38 = .ok (.iconst 0, 1) := by decide +kernel
theorem k32_38 {d : Nat} {l0 l1 : Option PV} {st : List PV} {M : Mem} {Q : Option PV → Mem → Prop} : WP d 32 38 [l0, l1] (st) M Q = WP d 32 39 [l0, l1] (vi 0 :: st) M Q := w_iconst mC_32 d32_38 (by decide)
theorem d32_39 : decode cX4_layBack 39 = .ok (.aload_n 0, 1) := by decide +kernel
theorem k32_39 {d x : Nat} {l1 : Option PV} {st : List PV} {M : Mem} {Q : Option PV → Mem → Prop} : WP d 32 39 [some (vr x), l1] (st) M Q = WP d 32 40 [some (vr x), l1] (vr x :: st) M Q := w1 mC_32 d32_39 rfl rfl
theorem d32_40 : decode cX4_layBack 40 = .ok (.getfield 24, 3) := by decide +kernel
theorem k32_40 {d : Nat} {l0 l1 : Option PV} {st : List PV} {M : Mem} {Q : Option PV → Mem → Prop} {r : Nat} (hk : mK M r = 4) : WP d 32 40 [l0, l1] (vr r :: st) M Q = WP d 32 43 [l0, l1] (vr (mR M r 4) :: st) M Q := w_getr mC_32 d32_40 fE_4_24 rfl (by rw [hk]; rfl)
theorem d32_43 : decode cX4_layBack 43 = .ok (.iconst 0, 1) := by decide +kernel
theorem k32_43 {d : Nat} {l0 l1 : Option PV} {st : List PV} {M : Mem} {Q : Option PV → Mem → Prop} : WP d 32 43 [l0, l1] (st) M Q = WP d 32 44 [l0, l1] (vi 0 :: st) M Q := w_iconst mC_32 d32_43 (by decide)
theorem d32_44 : decode cX4_layBack 44 = .ok (.aload_n 1, 1) := by decide +kernel
theorem k32_44 {d x : Nat} {l0 : Option PV} {st : List PV} {M : Mem} {Q : Option PV → Mem → Prop} : WP d 32 44 [l0, some (vr x)] (st) M Q = WP d 32 45 [l0, some (vr x)] (vr x :: st) M Q := w1 mC_32 d32_44 rfl rfl
theorem d32_45 : decode cX4_layBack 45 = .ok (.getfield 44, 3) := by decide +kernel
theorem k32_45 {d : Nat} {l0 l1 : Option PV} {st : List PV} {M : Mem} {Q : Option PV → Mem → Prop} {r : Nat} (hk : mK M r = 4) : WP d 32 45 [l0, l1] (vr r :: st) M Q = WP d 32 48 [l0, l1] (vi (mI M r 8) :: st) M Q := w_get mC_32 d32_45 fE_4_44 rfl (by rw [hk]; rfl)
theorem d32_48 : decode cX4_layBack 48 = .ok (.invokestatic 61, 3) := by decide +kernel
theorem k32_48 {d : Nat} {l0 l1 : Option PV} {st : List PV} {M : Mem} {Q : Option PV → Mem → Prop} {a b : Nat} {sp dp q : Int32} (hl : szL st ≤ 8) (h1 : ¬ sp < 0 ∧ ¬ dp < 0 ∧ ¬ q < 0 ∧ ix sp + ix q ≤ mN M b ∧ ix dp + ix q ≤ mN M a ∧ a ≠ 1 ∧ b ≠ 1) (hk : mK M a = 13) (hk2 : mK M b = 13) : WP d 32 48 [l0, l1] (vi q :: vi dp :: vr a :: vi sp :: vr b :: st) M Q = WP d 32 51 [l0, l1] (st) (cI M b (ix sp) a (ix dp) (ix q)) Q := w_copyI mC_32 d32_48 rfl rfl rfl hl h1 hk hk2
theorem k32_48l {d : Nat} {l0 l1 : Option PV} {st : List PV} {M : Mem} {Q : Option PV → Mem → Prop} {a b : Nat} {sp dp q : Int32} (hl : szL st ≤ 8) (h1 : ¬ sp < 0 ∧ ¬ dp < 0 ∧ ¬ q < 0 ∧ ix sp + ix q ≤ mN M b ∧ ix dp + ix q ≤ mN M a ∧ a ≠ 1 ∧ b ≠ 1) (hk : mK M a = 14) (hk2 : mK M b = 14) : WP d 32 48 [l0, l1] (vi q :: vi dp :: vr a :: vi sp :: vr b :: st) M Q = WP d 32 51 [l0, l1] (st) (cJ M b (ix sp) a (ix dp) (ix q)) Q := w_copyJ mC_32 d32_48 rfl rfl rfl hl h1 hk hk2
theorem k32_48b {d : Nat} {l0 l1 : Option PV} {st : List PV} {M : Mem} {Q : Option PV → Mem → Prop} {a b : Nat} {sp dp q : Int32} (hl : szL st ≤ 8) (h1 : ¬ sp < 0 ∧ ¬ dp < 0 ∧ ¬ q < 0 ∧ ix sp + ix q ≤ mN M b ∧ ix dp + ix q ≤ mN M a ∧ a ≠ 1 ∧ b ≠ 1) (hk : mK M a = 18) (hk2 : mK M b = 18 ∨ mK M b = 19) : WP d 32 48 [l0, l1] (vi q :: vi dp :: vr a :: vi sp :: vr b :: st) M Q = WP d 32 51 [l0, l1] (st) (cI M b (ix sp) a (ix dp) (ix q)) Q := w_copyB mC_32 d32_48 rfl rfl rfl hl h1 hk hk2
theorem d32_51 : decode cX4_layBack 51 = .ok (.aload_n 1, 1) := by decide +kernel
theorem k32_51 {d x : Nat} {l0 : Option PV} {st : List PV} {M : Mem} {Q : Option PV → Mem → Prop} : WP d 32 51 [l0, some (vr x)] (st) M Q = WP d 32 52 [l0, some (vr x)] (vr x :: st) M Q := w1 mC_32 d32_51 rfl rfl
theorem d32_52 : decode cX4_layBack 52 = .ok (.getfield 27, 3) := by decide +kernel
theorem k32_52 {d : Nat} {l0 l1 : Option PV} {st : List PV} {M : Mem} {Q : Option PV → Mem → Prop} {r : Nat} (hk : mK M r = 4) : WP d 32 52 [l0, l1] (vr r :: st) M Q = WP d 32 55 [l0, l1] (vr (mR M r 5) :: st) M Q := w_getr mC_32 d32_52 fE_4_27 rfl (by rw [hk]; rfl)
theorem d32_55 : decode cX4_layBack 55 = .ok (.iconst 0, 1) := by decide +kernel
theorem k32_55 {d : Nat} {l0 l1 : Option PV} {st : List PV} {M : Mem} {Q : Option PV → Mem → Prop} : WP d 32 55 [l0, l1] (st) M Q = WP d 32 56 [l0, l1] (vi 0 :: st) M Q := w_iconst mC_32 d32_55 (by decide)
theorem d32_56 : decode cX4_layBack 56 = .ok (.aload_n 0, 1) := by decide +kernel
theorem k32_56 {d x : Nat} {l1 : Option PV} {st : List PV} {M : Mem} {Q : Option PV → Mem → Prop} : WP d 32 56 [some (vr x), l1] (st) M Q = WP d 32 57 [some (vr x), l1] (vr x :: st) M Q := w1 mC_32 d32_56 rfl rfl
theorem d32_57 : decode cX4_layBack 57 = .ok (.getfield 27, 3) := by decide +kernel
theorem k32_57 {d : Nat} {l0 l1 : Option PV} {st : List PV} {M : Mem} {Q : Option PV → Mem → Prop} {r : Nat} (hk : mK M r = 4) : WP d 32 57 [l0, l1] (vr r :: st) M Q = WP d 32 60 [l0, l1] (vr (mR M r 5) :: st) M Q := w_getr mC_32 d32_57 fE_4_27 rfl (by rw [hk]; rfl)
theorem d32_60 : decode cX4_layBack 60 = .ok (.iconst 0, 1) := by decide +kernel
theorem k32_60 {d : Nat} {l0 l1 : Option PV} {st : List PV} {M : Mem} {Q : Option PV → Mem → Prop} : WP d 32 60 [l0, l1] (st) M Q = WP d 32 61 [l0, l1] (vi 0 :: st) M Q := w_iconst mC_32 d32_60 (by decide)
theorem d32_61 : decode cX4_layBack 61 = .ok (.aload_n 1, 1) := by decide +kernel
theorem k32_61 {d x : Nat} {l0 : Option PV} {st : List PV} {M : Mem} {Q : Option PV → Mem → Prop} : WP d 32 61 [l0, some (vr x)] (st) M Q = WP d 32 62 [l0, some (vr x)] (vr x :: st) M Q := w1 mC_32 d32_61 rfl rfl
theorem d32_62 : decode cX4_layBack 62 = .ok (.getfield 44, 3) := by decide +kernel
theorem k32_62 {d : Nat} {l0 l1 : Option PV} {st : List PV} {M : Mem} {Q : Option PV → Mem → Prop} {r : Nat} (hk : mK M r = 4) : WP d 32 62 [l0, l1] (vr r :: st) M Q = WP d 32 65 [l0, l1] (vi (mI M r 8) :: st) M Q := w_get mC_32 d32_62 fE_4_44 rfl (by rw [hk]; rfl)
theorem d32_65 : decode cX4_layBack 65 = .ok (.invokestatic 61, 3) := by decide +kernel
theorem k32_65 {d : Nat} {l0 l1 : Option PV} {st : List PV} {M : Mem} {Q : Option PV → Mem → Prop} {a b : Nat} {sp dp q : Int32} (hl : szL st ≤ 8) (h1 : ¬ sp < 0 ∧ ¬ dp < 0 ∧ ¬ q < 0 ∧ ix sp + ix q ≤ mN M b ∧ ix dp + ix q ≤ mN M a ∧ a ≠ 1 ∧ b ≠ 1) (hk : mK M a = 13) (hk2 : mK M b = 13) : WP d 32 65 [l0, l1] (vi q :: vi dp :: vr a :: vi sp :: vr b :: st) M Q = WP d 32 68 [l0, l1] (st) (cI M b (ix sp) a (ix dp) (ix q)) Q := w_copyI mC_32 d32_65 rfl rfl rfl hl h1 hk hk2
theorem k32_65l {d : Nat} {l0 l1 : Option PV} {st : List PV} {M : Mem} {Q : Option PV → Mem → Prop} {a b : Nat} {sp dp q : Int32} (hl : szL st ≤ 8) (h1 : ¬ sp < 0 ∧ ¬ dp < 0 ∧ ¬ q < 0 ∧ ix sp + ix q ≤ mN M b ∧ ix dp + ix q ≤ mN M a ∧ a ≠ 1 ∧ b ≠ 1) (hk : mK M a = 14) (hk2 : mK M b = 14) : WP d 32 65 [l0, l1] (vi q :: vi dp :: vr a :: vi sp :: vr b :: st) M Q = WP d 32 68 [l0, l1] (st) (cJ M b (ix sp) a (ix dp) (ix q)) Q := w_copyJ mC_32 d32_65 rfl rfl rfl hl h1 hk hk2
theorem k32_65b {d : Nat} {l0 l1 : Option PV} {st : List PV} {M : Mem} {Q : Option PV → Mem → Prop} {a b : Nat} {sp dp q : Int32} (hl : szL st ≤ 8) (h1 : ¬ sp < 0 ∧ ¬ dp < 0 ∧ ¬ q < 0 ∧ ix sp + ix q ≤ mN M b ∧ ix dp + ix q ≤ mN M a ∧ a ≠ 1 ∧ b ≠ 1) (hk : mK M a = 18) (hk2 : mK M b = 18 ∨ mK M b = 19) : WP d 32 65 [l0, l1] (vi q :: vi dp :: vr a :: vi sp :: vr b :: st) M Q = WP d 32 68 [l0, l1] (st) (cI M b (ix sp) a (ix dp) (ix q)) Q := w_copyB mC_32 d32_65 rfl rfl rfl hl h1 hk hk2
theorem d32_68 : decode cX4_layBack 68 = .ok (.aload_n 1, 1) := by decide +kernel
theorem k32_68 {d x : Nat} {l0 : Option PV} {st : List PV} {M : Mem} {Q : Option PV → Mem → Prop} : WP d 32 68 [l0, some (vr x)] (st) M Q = WP d 32 69 [l0, some (vr x)] (vr x :: st) M Q := w1 mC_32 d32_68 rfl rfl
theorem d32_69 : decode cX4_layBack 69 = .ok (.getfield 30, 3) := by decide +kernel
theorem k32_69 {d : Nat} {l0 l1 : Option PV} {st : List PV} {M : Mem} {Q : Option PV → Mem → Prop} {r : Nat} (hk : mK M r = 4) : WP d 32 69 [l0, l1] (vr r :: st) M Q = WP d 32 72 [l0, l1] (vr (mR M r 6) :: st) M Q := w_getr mC_32 d32_69 fE_4_30 rfl (by rw [hk]; rfl)
theorem d32_72 : decode cX4_layBack 72 = .ok (.iconst 0, 1) := by decide +kernel
theorem k32_72 {d : Nat} {l0 l1 : Option PV} {st : List PV} {M : Mem} {Q : Option PV → Mem → Prop} : WP d 32 72 [l0, l1] (st) M Q = WP d 32 73 [l0, l1] (vi 0 :: st) M Q := w_iconst mC_32 d32_72 (by decide)
theorem d32_73 : decode cX4_layBack 73 = .ok (.aload_n 0, 1) := by decide +kernel
theorem k32_73 {d x : Nat} {l1 : Option PV} {st : List PV} {M : Mem} {Q : Option PV → Mem → Prop} : WP d 32 73 [some (vr x), l1] (st) M Q = WP d 32 74 [some (vr x), l1] (vr x :: st) M Q := w1 mC_32 d32_73 rfl rfl
theorem d32_74 : decode cX4_layBack 74 = .ok (.getfield 30, 3) := by decide +kernel
theorem k32_74 {d : Nat} {l0 l1 : Option PV} {st : List PV} {M : Mem} {Q : Option PV → Mem → Prop} {r : Nat} (hk : mK M r = 4) : WP d 32 74 [l0, l1] (vr r :: st) M Q = WP d 32 77 [l0, l1] (vr (mR M r 6) :: st) M Q := w_getr mC_32 d32_74 fE_4_30 rfl (by rw [hk]; rfl)
theorem d32_77 : decode cX4_layBack 77 = .ok (.iconst 0, 1) := by decide +kernel
theorem k32_77 {d : Nat} {l0 l1 : Option PV} {st : List PV} {M : Mem} {Q : Option PV → Mem → Prop} : WP d 32 77 [l0, l1] (st) M Q = WP d 32 78 [l0, l1] (vi 0 :: st) M Q := w_iconst mC_32 d32_77 (by decide)
theorem d32_78 : decode cX4_layBack 78 = .ok (.iconst 5, 1) := by decide +kernel
theorem k32_78 {d : Nat} {l0 l1 : Option PV} {st : List PV} {M : Mem} {Q : Option PV → Mem → Prop} : WP d 32 78 [l0, l1] (st) M Q = WP d 32 79 [l0, l1] (vi 5 :: st) M Q := w_iconst mC_32 d32_78 (by decide)
theorem d32_79 : decode cX4_layBack 79 = .ok (.invokestatic 61, 3) := by decide +kernel
theorem k32_79 {d : Nat} {l0 l1 : Option PV} {st : List PV} {M : Mem} {Q : Option PV → Mem → Prop} {a b : Nat} {sp dp q : Int32} (hl : szL st ≤ 8) (h1 : ¬ sp < 0 ∧ ¬ dp < 0 ∧ ¬ q < 0 ∧ ix sp + ix q ≤ mN M b ∧ ix dp + ix q ≤ mN M a ∧ a ≠ 1 ∧ b ≠ 1) (hk : mK M a = 13) (hk2 : mK M b = 13) : WP d 32 79 [l0, l1] (vi q :: vi dp :: vr a :: vi sp :: vr b :: st) M Q = WP d 32 82 [l0, l1] (st) (cI M b (ix sp) a (ix dp) (ix q)) Q := w_copyI mC_32 d32_79 rfl rfl rfl hl h1 hk hk2
theorem k32_79l {d : Nat} {l0 l1 : Option PV} {st : List PV} {M : Mem} {Q : Option PV → Mem → Prop} {a b : Nat} {sp dp q : Int32} (hl : szL st ≤ 8) (h1 : ¬ sp < 0 ∧ ¬ dp < 0 ∧ ¬ q < 0 ∧ ix sp + ix q ≤ mN M b ∧ ix dp + ix q ≤ mN M a ∧ a ≠ 1 ∧ b ≠ 1) (hk : mK M a = 14) (hk2 : mK M b = 14) : WP d 32 79 [l0, l1] (vi q :: vi dp :: vr a :: vi sp :: vr b :: st) M Q = WP d 32 82 [l0, l1] (st) (cJ M b (ix sp) a (ix dp) (ix q)) Q := w_copyJ mC_32 d32_79 rfl rfl rfl hl h1 hk hk2
theorem k32_79b {d : Nat} {l0 l1 : Option PV} {st : List PV} {M : Mem} {Q : Option PV → Mem → Prop} {a b : Nat} {sp dp q : Int32} (hl : szL st ≤ 8) (h1 : ¬ sp < 0 ∧ ¬ dp < 0 ∧ ¬ q < 0 ∧ ix sp + ix q ≤ mN M b ∧ ix dp + ix q ≤ mN M a ∧ a ≠ 1 ∧ b ≠ 1) (hk : mK M a = 18) (hk2 : mK M b = 18 ∨ mK M b = 19) : WP d 32 79 [l0, l1] (vi q :: vi dp :: vr a :: vi sp :: vr b :: st) M Q = WP d 32 82 [l0, l1] (st) (cI M b (ix sp) a (ix dp) (ix q)) Q := w_copyB mC_32 d32_79 rfl rfl rfl hl h1 hk hk2
theorem d32_82 : decode cX4_layBack 82 = .ok (.aload_n 0, 1) := by decide +kernel
theorem k32_82 {d x : Nat} {l1 : Option PV} {st : List PV} {M : Mem} {Q : Option PV → Mem → Prop} : WP d 32 82 [some (vr x), l1] (st) M Q = WP d 32 83 [some (vr x), l1] (vr x :: st) M Q := w1 mC_32 d32_82 rfl rfl
theorem d32_83 : decode cX4_layBack 83 = .ok (.aload_n 1, 1) := by decide +kernel
theorem k32_83 {d x : Nat} {l0 : Option PV} {st : List PV} {M : Mem} {Q : Option PV → Mem → Prop} : WP d 32 83 [l0, some (vr x)] (st) M Q = WP d 32 84 [l0, some (vr x)] (vr x :: st) M Q := w1 mC_32 d32_83 rfl rfl
theorem d32_84 : decode cX4_layBack 84 = .ok (.getfield 54, 3) := by decide +kernel
theorem k32_84 {d : Nat} {l0 l1 : Option PV} {st : List PV} {M : Mem} {Q : Option PV → Mem → Prop} {r : Nat} (hk : mK M r = 4) : WP d 32 84 [l0, l1] (vr r :: st) M Q = WP d 32 87 [l0, l1] (vi (mI M r 10) :: st) M Q := w_get mC_32 d32_84 fE_4_54 rfl (by rw [hk]; rfl)
theorem d32_87 : decode cX4_layBack 87 = .ok (.putfield 54, 3) := by decide +kernel
theorem k32_87 {d : Nat} {l0 l1 : Option PV} {st : List PV} {M : Mem} {Q : Option PV → Mem → Prop} {r : Nat} {x : Int32} (hk : mK M r = 4) : WP d 32 87 [l0, l1] (vi x :: vr r :: st) M Q = WP d 32 90 [l0, l1] (st) (sI M r 10 x) Q := w_put mC_32 d32_87 fE_4_54 (by decide +kernel) (by rw [hk]; rfl)
theorem d32_90 : decode cX4_layBack 90 = .ok (.return_, 1) := by decide +kernel
theorem k32_90 {d : Nat} {l0 l1 : Option PV} {M : Mem} {Q : Option PV → Mem → Prop} : WP d 32 90 [l0, l1] ([]) M Q = Q none M := w_vret mC_32 d32_90 rfl
theorem d33_0 : decode cX4_far 0 = .ok (.iload_n 0, 1) := by decide +kernel
theorem k33_0 {d : Nat} {x : Int32} {l1 : Option PV} {st : List PV} {M : Mem} {Q : Option PV → Mem → Prop} : WP d 33 0 [some (vi x), l1] (st) M Q = WP d 33 1 [some (vi x), l1] (vi x :: st) M Q := w1 mC_33 d33_0 rfl rfl
theorem d33_1 : decode cX4_far 1 = .ok (.bipush 6, 2) := by decide +kernel
theorem k33_1 {d : Nat} {l0 l1 : Option PV} {st : List PV} {M : Mem} {Q : Option PV → Mem → Prop} : WP d 33 1 [l0, l1] (st) M Q = WP d 33 3 [l0, l1] (vi 6 :: st) M Q := w_bipush mC_33 d33_1 (by decide)
theorem d33_3 : decode cX4_far 3 = .ok (.idiv, 1) := by decide +kernel
theorem k33_3 {d : Nat} {l0 l1 : Option PV} {st : List PV} {M : Mem} {Q : Option PV → Mem → Prop} {x y : Int32} (h : y ≠ 0) : WP d 33 3 [l0, l1] (vi y :: vi x :: st) M Q = WP d 33 4 [l0, l1] (vi (x / y) :: st) M Q := w_div mC_33 d33_3 h
theorem d33_4 : decode cX4_far 4 = .ok (.iload_n 1, 1) := by decide +kernel
theorem k33_4 {d : Nat} {x : Int32} {l0 : Option PV} {st : List PV} {M : Mem} {Q : Option PV → Mem → Prop} : WP d 33 4 [l0, some (vi x)] (st) M Q = WP d 33 5 [l0, some (vi x)] (vi x :: st) M Q := w1 mC_33 d33_4 rfl rfl
theorem d33_5 : decode cX4_far 5 = .ok (.bipush 6, 2) := by decide +kernel
theorem k33_5 {d : Nat} {l0 l1 : Option PV} {st : List PV} {M : Mem} {Q : Option PV → Mem → Prop} : WP d 33 5 [l0, l1] (st) M Q = WP d 33 7 [l0, l1] (vi 6 :: st) M Q := w_bipush mC_33 d33_5 (by decide)
theorem d33_7 : decode cX4_far 7 = .ok (.idiv, 1) := by decide +kernel
theorem k33_7 {d : Nat} {l0 l1 : Option PV} {st : List PV} {M : Mem} {Q : Option PV → Mem → Prop} {x y : Int32} (h : y ≠ 0) : WP d 33 7 [l0, l1] (vi y :: vi x :: st) M Q = WP d 33 8 [l0, l1] (vi (x / y) :: st) M Q := w_div mC_33 d33_7 h
theorem d33_8 : decode cX4_far 8 = .ok (.isub, 1) := by decide +kernel
theorem k33_8 {d : Nat} {l0 l1 : Option PV} {st : List PV} {M : Mem} {Q : Option PV → Mem → Prop} {x y : Int32} : WP d 33 8 [l0, l1] (vi y :: vi x :: st) M Q = WP d 33 9 [l0, l1] (vi (x - y) :: st) M Q := w1 mC_33 d33_8 rfl rfl
theorem d33_9 : decode cX4_far 9 = .ok (.invokestatic 71, 3) := by decide +kernel
theorem k33_9 {d : Nat} {l0 l1 : Option PV} {st : List PV} {M : Mem} {Q : Option PV → Mem → Prop} {x : Int32} (hl : szL st ≤ 8) : WP d 33 9 [l0, l1] (vi x :: st) M Q = WP d 33 12 [l0, l1] (vi (if 0 ≤ x then x else 0 - x) :: st) M Q := w_abs mC_33 d33_9 rfl rfl rfl hl
theorem d33_12 : decode cX4_far 12 = .ok (.iload_n 0, 1) := by decide +kernel
theorem k33_12 {d : Nat} {x : Int32} {l1 : Option PV} {st : List PV} {M : Mem} {Q : Option PV → Mem → Prop} : WP d 33 12 [some (vi x), l1] (st) M Q = WP d 33 13 [some (vi x), l1] (vi x :: st) M Q := w1 mC_33 d33_12 rfl rfl
theorem d33_13 : decode cX4_far 13 = .ok (.bipush 6, 2) := by decide +kernel
theorem k33_13 {d : Nat} {l0 l1 : Option PV} {st : List PV} {M : Mem} {Q : Option PV → Mem → Prop} : WP d 33 13 [l0, l1] (st) M Q = WP d 33 15 [l0, l1] (vi 6 :: st) M Q := w_bipush mC_33 d33_13 (by decide)
theorem d33_15 : decode cX4_far 15 = .ok (.irem, 1) := by decide +kernel
theorem k33_15 {d : Nat} {l0 l1 : Option PV} {st : List PV} {M : Mem} {Q : Option PV → Mem → Prop} {x y : Int32} (h : y ≠ 0) : WP d 33 15 [l0, l1] (vi y :: vi x :: st) M Q = WP d 33 16 [l0, l1] (vi (x % y) :: st) M Q := w_rem mC_33 d33_15 h
theorem d33_16 : decode cX4_far 16 = .ok (.iload_n 1, 1) := by decide +kernel
theorem k33_16 {d : Nat} {x : Int32} {l0 : Option PV} {st : List PV} {M : Mem} {Q : Option PV → Mem → Prop} : WP d 33 16 [l0, some (vi x)] (st) M Q = WP d 33 17 [l0, some (vi x)] (vi x :: st) M Q := w1 mC_33 d33_16 rfl rfl
theorem d33_17 : decode cX4_far 17 = .ok (.bipush 6, 2) := by decide +kernel
theorem k33_17 {d : Nat} {l0 l1 : Option PV} {st : List PV} {M : Mem} {Q : Option PV → Mem → Prop} : WP d 33 17 [l0, l1] (st) M Q = WP d 33 19 [l0, l1] (vi 6 :: st) M Q := w_bipush mC_33 d33_17 (by decide)
theorem d33_19 : decode cX4_far 19 = .ok (.irem, 1) := by decide +kernel
theorem k33_19 {d : Nat} {l0 l1 : Option PV} {st : List PV} {M : Mem} {Q : Option PV → Mem → Prop} {x y : Int32} (h : y ≠ 0) : WP d 33 19 [l0, l1] (vi y :: vi x :: st) M Q = WP d 33 20 [l0, l1] (vi (x % y) :: st) M Q := w_rem mC_33 d33_19 h
theorem d33_20 : decode cX4_far 20 = .ok (.isub, 1) := by decide +kernel
theorem k33_20 {d : Nat} {l0 l1 : Option PV} {st : List PV} {M : Mem} {Q : Option PV → Mem → Prop} {x y : Int32} : WP d 33 20 [l0, l1] (vi y :: vi x :: st) M Q = WP d 33 21 [l0, l1] (vi (x - y) :: st) M Q := w1 mC_33 d33_20 rfl rfl
theorem d33_21 : decode cX4_far 21 = .ok (.invokestatic 71, 3) := by decide +kernel
theorem k33_21 {d : Nat} {l0 l1 : Option PV} {st : List PV} {M : Mem} {Q : Option PV → Mem → Prop} {x : Int32} (hl : szL st ≤ 8) : WP d 33 21 [l0, l1] (vi x :: st) M Q = WP d 33 24 [l0, l1] (vi (if 0 ≤ x then x else 0 - x) :: st) M Q := w_abs mC_33 d33_21 rfl rfl rfl hl
theorem d33_24 : decode cX4_far 24 = .ok (.iadd, 1) := by decide +kernel
theorem k33_24 {d : Nat} {l0 l1 : Option PV} {st : List PV} {M : Mem} {Q : Option PV → Mem → Prop} {x y : Int32} : WP d 33 24 [l0, l1] (vi y :: vi x :: st) M Q = WP d 33 25 [l0, l1] (vi (x + y) :: st) M Q := w1 mC_33 d33_24 rfl rfl
theorem d33_25 : decode cX4_far 25 = .ok (.ireturn, 1) := by decide +kernel
theorem k33_25 {d : Nat} {l0 l1 : Option PV} {M : Mem} {Q : Option PV → Mem → Prop} {x : Int32} : WP d 33 25 [l0, l1] ([vi x]) M Q = Q (some (vi x)) M := w_iret mC_33 d33_25 rfl
theorem d34_0 : decode cX4_nearestTo 0 = .ok (.iload_n 1, 1) := by decide +kernel
theorem k34_0 {d : Nat} {x : Int32} {l0 l2 l3 l4 : Option PV} {st : List PV} {M : Mem} {Q : Option PV → Mem → Prop} : WP d 34 0 [l0, some (vi x), l2, l3, l4] (st) M Q = WP d 34 1 [l0, some (vi x), l2, l3, l4] (vi x :: st) M Q := w1 mC_34 d34_0 rfl rfl
theorem d34_1 : decode cX4_nearestTo 1 = .ok (.istore_n 2, 1) := by decide +kernel
theorem k34_1 {d : Nat} {l0 l1 l2 l3 l4 : Option PV} {st : List PV} {M : Mem} {Q : Option PV → Mem → Prop} {x : Int32} : WP d 34 1 [l0, l1, l2, l3, l4] (vi x :: st) M Q = WP d 34 2 [l0, l1, some (vi x), l3, l4] (st) M Q := w1 mC_34 d34_1 rfl rfl
theorem d34_2 : decode cX4_nearestTo 2 = .ok (.iconst 0, 1) := by decide +kernel
theorem k34_2 {d : Nat} {l0 l1 l2 l3 l4 : Option PV} {st : List PV} {M : Mem} {Q : Option PV → Mem → Prop} : WP d 34 2 [l0, l1, l2, l3, l4] (st) M Q = WP d 34 3 [l0, l1, l2, l3, l4] (vi 0 :: st) M Q := w_iconst mC_34 d34_2 (by decide)
theorem d34_3 : decode cX4_nearestTo 3 = .ok (.istore_n 3, 1) := by decide +kernel
theorem k34_3 {d : Nat} {l0 l1 l2 l3 l4 : Option PV} {st : List PV} {M : Mem} {Q : Option PV → Mem → Prop} {x : Int32} : WP d 34 3 [l0, l1, l2, l3, l4] (vi x :: st) M Q = WP d 34 4 [l0, l1, l2, some (vi x), l4] (st) M Q := w1 mC_34 d34_3 rfl rfl
theorem d34_4 : decode cX4_nearestTo 4 = .ok (.iload_n 3, 1) := by decide +kernel
theorem k34_4 {d : Nat} {x : Int32} {l0 l1 l2 l4 : Option PV} {st : List PV} {M : Mem} {Q : Option PV → Mem → Prop} : WP d 34 4 [l0, l1, l2, some (vi x), l4] (st) M Q = WP d 34 5 [l0, l1, l2, some (vi x), l4] (vi x :: st) M Q := w1 mC_34 d34_4 rfl rfl
theorem d34_5 : decode cX4_nearestTo 5 = .ok (.aload_n 0, 1) := by decide +kernel
theorem k34_5 {d x : Nat} {l1 l2 l3 l4 : Option PV} {st : List PV} {M : Mem} {Q : Option PV → Mem → Prop} : WP d 34 5 [some (vr x), l1, l2, l3, l4] (st) M Q = WP d 34 6 [some (vr x), l1, l2, l3, l4] (vr x :: st) M Q := w1 mC_34 d34_5 rfl rfl
theorem d34_6 : decode cX4_nearestTo 6 = .ok (.getfield 37, 3) := by decide +kernel
theorem k34_6 {d : Nat} {l0 l1 l2 l3 l4 : Option PV} {st : List PV} {M : Mem} {Q : Option PV → Mem → Prop} {r : Nat} (hk : mK M r = 4) : WP d 34 6 [l0, l1, l2, l3, l4] (vr r :: st) M Q = WP d 34 9 [l0, l1, l2, l3, l4] (vi (mI M r 7) :: st) M Q := w_get mC_34 d34_6 fE_4_37 rfl (by rw [hk]; rfl)
theorem d34_9 : decode cX4_nearestTo 9 = .ok (.if_icmp .ge 66, 3) := by decide +kernel
theorem k34_9 {d : Nat} {l0 l1 l2 l3 l4 : Option PV} {st : List PV} {M : Mem} {Q : Option PV → Mem → Prop} {x y : Int32} : WP d 34 9 [l0, l1, l2, l3, l4] (vi y :: vi x :: st) M Q = (if y ≤ x then WP d 34 75 [l0, l1, l2, l3, l4] (st) M Q else WP d 34 12 [l0, l1, l2, l3, l4] (st) M Q) := w_ic_ge mC_34 d34_9 (by decide)
theorem d34_12 : decode cX4_nearestTo 12 = .ok (.iload_n 2, 1) := by decide +kernel
theorem k34_12 {d : Nat} {x : Int32} {l0 l1 l3 l4 : Option PV} {st : List PV} {M : Mem} {Q : Option PV → Mem → Prop} : WP d 34 12 [l0, l1, some (vi x), l3, l4] (st) M Q = WP d 34 13 [l0, l1, some (vi x), l3, l4] (vi x :: st) M Q := w1 mC_34 d34_12 rfl rfl
theorem d34_13 : decode cX4_nearestTo 13 = .ok (.iload_n 1, 1) := by decide +kernel
theorem k34_13 {d : Nat} {x : Int32} {l0 l2 l3 l4 : Option PV} {st : List PV} {M : Mem} {Q : Option PV → Mem → Prop} : WP d 34 13 [l0, some (vi x), l2, l3, l4] (st) M Q = WP d 34 14 [l0, some (vi x), l2, l3, l4] (vi x :: st) M Q := w1 mC_34 d34_13 rfl rfl
theorem d34_14 : decode cX4_nearestTo 14 = .ok (.if_icmp .eq 36, 3) := by decide +kernel
theorem k34_14 {d : Nat} {l0 l1 l2 l3 l4 : Option PV} {st : List PV} {M : Mem} {Q : Option PV → Mem → Prop} {x y : Int32} : WP d 34 14 [l0, l1, l2, l3, l4] (vi y :: vi x :: st) M Q = (if x = y then WP d 34 50 [l0, l1, l2, l3, l4] (st) M Q else WP d 34 17 [l0, l1, l2, l3, l4] (st) M Q) := w_ic_eq mC_34 d34_14 (by decide)
theorem d34_17 : decode cX4_nearestTo 17 = .ok (.aload_n 0, 1) := by decide +kernel
theorem k34_17 {d x : Nat} {l1 l2 l3 l4 : Option PV} {st : List PV} {M : Mem} {Q : Option PV → Mem → Prop} : WP d 34 17 [some (vr x), l1, l2, l3, l4] (st) M Q = WP d 34 18 [some (vr x), l1, l2, l3, l4] (vr x :: st) M Q := w1 mC_34 d34_17 rfl rfl
theorem d34_18 : decode cX4_nearestTo 18 = .ok (.getfield 9, 3) := by decide +kernel
theorem k34_18 {d : Nat} {l0 l1 l2 l3 l4 : Option PV} {st : List PV} {M : Mem} {Q : Option PV → Mem → Prop} {r : Nat} (hk : mK M r = 4) : WP d 34 18 [l0, l1, l2, l3, l4] (vr r :: st) M Q = WP d 34 21 [l0, l1, l2, l3, l4] (vr (mR M r 0) :: st) M Q := w_getr mC_34 d34_18 fE_4_9 rfl (by rw [hk]; rfl)
theorem d34_21 : decode cX4_nearestTo 21 = .ok (.iload_n 1, 1) := by decide +kernel
theorem k34_21 {d : Nat} {x : Int32} {l0 l2 l3 l4 : Option PV} {st : List PV} {M : Mem} {Q : Option PV → Mem → Prop} : WP d 34 21 [l0, some (vi x), l2, l3, l4] (st) M Q = WP d 34 22 [l0, some (vi x), l2, l3, l4] (vi x :: st) M Q := w1 mC_34 d34_21 rfl rfl
theorem d34_22 : decode cX4_nearestTo 22 = .ok (.iaload, 1) := by decide +kernel
theorem k34_22 {d : Nat} {l0 l1 l2 l3 l4 : Option PV} {st : List PV} {M : Mem} {Q : Option PV → Mem → Prop} {r : Nat} {j : Int32} (hk : mK M r = 13) (hj : inb j (mN M r)) (_h1 : r ≠ 1) : WP d 34 22 [l0, l1, l2, l3, l4] (vi j :: vr r :: st) M Q = WP d 34 23 [l0, l1, l2, l3, l4] (vi (mI M r (ix j)) :: st) M Q := w_iald mC_34 d34_22 hk hj
theorem d34_23 : decode cX4_nearestTo 23 = .ok (.aload_n 0, 1) := by decide +kernel
theorem k34_23 {d x : Nat} {l1 l2 l3 l4 : Option PV} {st : List PV} {M : Mem} {Q : Option PV → Mem → Prop} : WP d 34 23 [some (vr x), l1, l2, l3, l4] (st) M Q = WP d 34 24 [some (vr x), l1, l2, l3, l4] (vr x :: st) M Q := w1 mC_34 d34_23 rfl rfl
theorem d34_24 : decode cX4_nearestTo 24 = .ok (.getfield 9, 3) := by decide +kernel
theorem k34_24 {d : Nat} {l0 l1 l2 l3 l4 : Option PV} {st : List PV} {M : Mem} {Q : Option PV → Mem → Prop} {r : Nat} (hk : mK M r = 4) : WP d 34 24 [l0, l1, l2, l3, l4] (vr r :: st) M Q = WP d 34 27 [l0, l1, l2, l3, l4] (vr (mR M r 0) :: st) M Q := w_getr mC_34 d34_24 fE_4_9 rfl (by rw [hk]; rfl)
theorem d34_27 : decode cX4_nearestTo 27 = .ok (.iload_n 3, 1) := by decide +kernel
theorem k34_27 {d : Nat} {x : Int32} {l0 l1 l2 l4 : Option PV} {st : List PV} {M : Mem} {Q : Option PV → Mem → Prop} : WP d 34 27 [l0, l1, l2, some (vi x), l4] (st) M Q = WP d 34 28 [l0, l1, l2, some (vi x), l4] (vi x :: st) M Q := w1 mC_34 d34_27 rfl rfl
theorem d34_28 : decode cX4_nearestTo 28 = .ok (.iaload, 1) := by decide +kernel
theorem k34_28 {d : Nat} {l0 l1 l2 l3 l4 : Option PV} {st : List PV} {M : Mem} {Q : Option PV → Mem → Prop} {r : Nat} {j : Int32} (hk : mK M r = 13) (hj : inb j (mN M r)) (_h1 : r ≠ 1) : WP d 34 28 [l0, l1, l2, l3, l4] (vi j :: vr r :: st) M Q = WP d 34 29 [l0, l1, l2, l3, l4] (vi (mI M r (ix j)) :: st) M Q := w_iald mC_34 d34_28 hk hj
theorem d34_29 : decode cX4_nearestTo 29 = .ok (.invokestatic 77, 3) := by decide +kernel
theorem k34_29 {d : Nat} {l0 l1 l2 l3 l4 : Option PV} {st : List PV} {M : Mem} {Q : Option PV → Mem → Prop} {a0 a1 : Int32} (hl : szL st ≤ 8) : WP (d + 1) 34 29 [l0, l1, l2, l3, l4] (vi a1 :: vi a0 :: st) M Q = WP d 33 0 [some (vi a0), some (vi a1)] [] M (fun v M' => WP (d + 1) 34 32 [l0, l1, l2, l3, l4] (psh v st) M' Q) := w_callS mC_34 d34_29 rfl rfl (Nat.le_of_ble_eq_true rfl) (by decide) rfl hl
theorem d34_32 : decode cX4_nearestTo 32 = .ok (.aload_n 0, 1) := by decide +kernel
theorem k34_32 {d x : Nat} {l1 l2 l3 l4 : Option PV} {st : List PV} {M : Mem} {Q : Option PV → Mem → Prop} : WP d 34 32 [some (vr x), l1, l2, l3, l4] (st) M Q = WP d 34 33 [some (vr x), l1, l2, l3, l4] (vr x :: st) M Q := w1 mC_34 d34_32 rfl rfl
theorem d34_33 : decode cX4_nearestTo 33 = .ok (.getfield 9, 3) := by decide +kernel
theorem k34_33 {d : Nat} {l0 l1 l2 l3 l4 : Option PV} {st : List PV} {M : Mem} {Q : Option PV → Mem → Prop} {r : Nat} (hk : mK M r = 4) : WP d 34 33 [l0, l1, l2, l3, l4] (vr r :: st) M Q = WP d 34 36 [l0, l1, l2, l3, l4] (vr (mR M r 0) :: st) M Q := w_getr mC_34 d34_33 fE_4_9 rfl (by rw [hk]; rfl)
theorem d34_36 : decode cX4_nearestTo 36 = .ok (.iload_n 1, 1) := by decide +kernel
theorem k34_36 {d : Nat} {x : Int32} {l0 l2 l3 l4 : Option PV} {st : List PV} {M : Mem} {Q : Option PV → Mem → Prop} : WP d 34 36 [l0, some (vi x), l2, l3, l4] (st) M Q = WP d 34 37 [l0, some (vi x), l2, l3, l4] (vi x :: st) M Q := w1 mC_34 d34_36 rfl rfl
theorem d34_37 : decode cX4_nearestTo 37 = .ok (.iaload, 1) := by decide +kernel
theorem k34_37 {d : Nat} {l0 l1 l2 l3 l4 : Option PV} {st : List PV} {M : Mem} {Q : Option PV → Mem → Prop} {r : Nat} {j : Int32} (hk : mK M r = 13) (hj : inb j (mN M r)) (_h1 : r ≠ 1) : WP d 34 37 [l0, l1, l2, l3, l4] (vi j :: vr r :: st) M Q = WP d 34 38 [l0, l1, l2, l3, l4] (vi (mI M r (ix j)) :: st) M Q := w_iald mC_34 d34_37 hk hj
theorem d34_38 : decode cX4_nearestTo 38 = .ok (.aload_n 0, 1) := by decide +kernel
theorem k34_38 {d x : Nat} {l1 l2 l3 l4 : Option PV} {st : List PV} {M : Mem} {Q : Option PV → Mem → Prop} : WP d 34 38 [some (vr x), l1, l2, l3, l4] (st) M Q = WP d 34 39 [some (vr x), l1, l2, l3, l4] (vr x :: st) M Q := w1 mC_34 d34_38 rfl rfl
theorem d34_39 : decode cX4_nearestTo 39 = .ok (.getfield 9, 3) := by decide +kernel
theorem k34_39 {d : Nat} {l0 l1 l2 l3 l4 : Option PV} {st : List PV} {M : Mem} {Q : Option PV → Mem → Prop} {r : Nat} (hk : mK M r = 4) : WP d 34 39 [l0, l1, l2, l3, l4] (vr r :: st) M Q = WP d 34 42 [l0, l1, l2, l3, l4] (vr (mR M r 0) :: st) M Q := w_getr mC_34 d34_39 fE_4_9 rfl (by rw [hk]; rfl)
theorem d34_42 : decode cX4_nearestTo 42 = .ok (.iload_n 2, 1) := by decide +kernel
theorem k34_42 {d : Nat} {x : Int32} {l0 l1 l3 l4 : Option PV} {st : List PV} {M : Mem} {Q : Option PV → Mem → Prop} : WP d 34 42 [l0, l1, some (vi x), l3, l4] (st) M Q = WP d 34 43 [l0, l1, some (vi x), l3, l4] (vi x :: st) M Q := w1 mC_34 d34_42 rfl rfl
theorem d34_43 : decode cX4_nearestTo 43 = .ok (.iaload, 1) := by decide +kernel
theorem k34_43 {d : Nat} {l0 l1 l2 l3 l4 : Option PV} {st : List PV} {M : Mem} {Q : Option PV → Mem → Prop} {r : Nat} {j : Int32} (hk : mK M r = 13) (hj : inb j (mN M r)) (_h1 : r ≠ 1) : WP d 34 43 [l0, l1, l2, l3, l4] (vi j :: vr r :: st) M Q = WP d 34 44 [l0, l1, l2, l3, l4] (vi (mI M r (ix j)) :: st) M Q := w_iald mC_34 d34_43 hk hj
theorem d34_44 : decode cX4_nearestTo 44 = .ok (.invokestatic 77, 3) := by decide +kernel
theorem k34_44 {d : Nat} {l0 l1 l2 l3 l4 : Option PV} {st : List PV} {M : Mem} {Q : Option PV → Mem → Prop} {a0 a1 : Int32} (hl : szL st ≤ 8) : WP (d + 1) 34 44 [l0, l1, l2, l3, l4] (vi a1 :: vi a0 :: st) M Q = WP d 33 0 [some (vi a0), some (vi a1)] [] M (fun v M' => WP (d + 1) 34 47 [l0, l1, l2, l3, l4] (psh v st) M' Q) := w_callS mC_34 d34_44 rfl rfl (Nat.le_of_ble_eq_true rfl) (by decide) rfl hl
theorem d34_47 : decode cX4_nearestTo 47 = .ok (.if_icmp .ge 7, 3) := by decide +kernel
theorem k34_47 {d : Nat} {l0 l1 l2 l3 l4 : Option PV} {st : List PV} {M : Mem} {Q : Option PV → Mem → Prop} {x y : Int32} : WP d 34 47 [l0, l1, l2, l3, l4] (vi y :: vi x :: st) M Q = (if y ≤ x then WP d 34 54 [l0, l1, l2, l3, l4] (st) M Q else WP d 34 50 [l0, l1, l2, l3, l4] (st) M Q) := w_ic_ge mC_34 d34_47 (by decide)
theorem d34_50 : decode cX4_nearestTo 50 = .ok (.iconst 1, 1) := by decide +kernel
theorem k34_50 {d : Nat} {l0 l1 l2 l3 l4 : Option PV} {st : List PV} {M : Mem} {Q : Option PV → Mem → Prop} : WP d 34 50 [l0, l1, l2, l3, l4] (st) M Q = WP d 34 51 [l0, l1, l2, l3, l4] (vi 1 :: st) M Q := w_iconst mC_34 d34_50 (by decide)
theorem d34_51 : decode cX4_nearestTo 51 = .ok (.goto 4, 3) := by decide +kernel
theorem k34_51 {d : Nat} {l0 l1 l2 l3 l4 : Option PV} {st : List PV} {M : Mem} {Q : Option PV → Mem → Prop} : WP d 34 51 [l0, l1, l2, l3, l4] (st) M Q = WP d 34 55 [l0, l1, l2, l3, l4] (st) M Q := w_goto mC_34 d34_51 (by decide)
theorem d34_54 : decode cX4_nearestTo 54 = .ok (.iconst 0, 1) := by decide +kernel
theorem k34_54 {d : Nat} {l0 l1 l2 l3 l4 : Option PV} {st : List PV} {M : Mem} {Q : Option PV → Mem → Prop} : WP d 34 54 [l0, l1, l2, l3, l4] (st) M Q = WP d 34 55 [l0, l1, l2, l3, l4] (vi 0 :: st) M Q := w_iconst mC_34 d34_54 (by decide)
theorem d34_55 : decode cX4_nearestTo 55 = .ok (.istore 4, 2) := by decide +kernel
theorem k34_55 {d : Nat} {l0 l1 l2 l3 l4 : Option PV} {st : List PV} {M : Mem} {Q : Option PV → Mem → Prop} {x : Int32} : WP d 34 55 [l0, l1, l2, l3, l4] (vi x :: st) M Q = WP d 34 57 [l0, l1, l2, l3, some (vi x)] (st) M Q := w1 mC_34 d34_55 rfl rfl
theorem d34_57 : decode cX4_nearestTo 57 = .ok (.iload_n 3, 1) := by decide +kernel
theorem k34_57 {d : Nat} {x : Int32} {l0 l1 l2 l4 : Option PV} {st : List PV} {M : Mem} {Q : Option PV → Mem → Prop} : WP d 34 57 [l0, l1, l2, some (vi x), l4] (st) M Q = WP d 34 58 [l0, l1, l2, some (vi x), l4] (vi x :: st) M Q := w1 mC_34 d34_57 rfl rfl
theorem d34_58 : decode cX4_nearestTo 58 = .ok (.iload_n 1, 1) := by decide +kernel
theorem k34_58 {d : Nat} {x : Int32} {l0 l2 l3 l4 : Option PV} {st : List PV} {M : Mem} {Q : Option PV → Mem → Prop} : WP d 34 58 [l0, some (vi x), l2, l3, l4] (st) M Q = WP d 34 59 [l0, some (vi x), l2, l3, l4] (vi x :: st) M Q := w1 mC_34 d34_58 rfl rfl
theorem d34_59 : decode cX4_nearestTo 59 = .ok (.if_icmp .eq 10, 3) := by decide +kernel
theorem k34_59 {d : Nat} {l0 l1 l2 l3 l4 : Option PV} {st : List PV} {M : Mem} {Q : Option PV → Mem → Prop} {x y : Int32} : WP d 34 59 [l0, l1, l2, l3, l4] (vi y :: vi x :: st) M Q = (if x = y then WP d 34 69 [l0, l1, l2, l3, l4] (st) M Q else WP d 34 62 [l0, l1, l2, l3, l4] (st) M Q) := w_ic_eq mC_34 d34_59 (by decide)
theorem d34_62 : decode cX4_nearestTo 62 = .ok (.iload 4, 2) := by decide +kernel
theorem k34_62 {d : Nat} {x : Int32} {l0 l1 l2 l3 : Option PV} {st : List PV} {M : Mem} {Q : Option PV → Mem → Prop} : WP d 34 62 [l0, l1, l2, l3, some (vi x)] (st) M Q = WP d 34 64 [l0, l1, l2, l3, some (vi x)] (vi x :: st) M Q := w1 mC_34 d34_62 rfl rfl
theorem d34_64 : decode cX4_nearestTo 64 = .ok (.ifCond .eq 5, 3) := by decide +kernel
theorem k34_64 {d : Nat} {l0 l1 l2 l3 l4 : Option PV} {st : List PV} {M : Mem} {Q : Option PV → Mem → Prop} {x : Int32} : WP d 34 64 [l0, l1, l2, l3, l4] (vi x :: st) M Q = (if x = 0 then WP d 34 69 [l0, l1, l2, l3, l4] (st) M Q else WP d 34 67 [l0, l1, l2, l3, l4] (st) M Q) := w_if_eq mC_34 d34_64 (by decide)
theorem d34_67 : decode cX4_nearestTo 67 = .ok (.iload_n 3, 1) := by decide +kernel
theorem k34_67 {d : Nat} {x : Int32} {l0 l1 l2 l4 : Option PV} {st : List PV} {M : Mem} {Q : Option PV → Mem → Prop} : WP d 34 67 [l0, l1, l2, some (vi x), l4] (st) M Q = WP d 34 68 [l0, l1, l2, some (vi x), l4] (vi x :: st) M Q := w1 mC_34 d34_67 rfl rfl
theorem d34_68 : decode cX4_nearestTo 68 = .ok (.istore_n 2, 1) := by decide +kernel
theorem k34_68 {d : Nat} {l0 l1 l2 l3 l4 : Option PV} {st : List PV} {M : Mem} {Q : Option PV → Mem → Prop} {x : Int32} : WP d 34 68 [l0, l1, l2, l3, l4] (vi x :: st) M Q = WP d 34 69 [l0, l1, some (vi x), l3, l4] (st) M Q := w1 mC_34 d34_68 rfl rfl
theorem d34_69 : decode cX4_nearestTo 69 = .ok (.iinc 3 1, 3) := by decide +kernel
theorem k34_69 {d : Nat} {x : Int32} {l0 l1 l2 l4 : Option PV} {st : List PV} {M : Mem} {Q : Option PV → Mem → Prop} : WP d 34 69 [l0, l1, l2, some (vi x), l4] (st) M Q = WP d 34 72 [l0, l1, l2, some (vi (x + 1)), l4] (st) M Q := w_iinc mC_34 d34_69 rfl (by decide) rfl
theorem d34_72 : decode cX4_nearestTo 72 = .ok (.goto (-68), 3) := by decide +kernel
theorem k34_72 {d : Nat} {l0 l1 l2 l3 l4 : Option PV} {st : List PV} {M : Mem} {Q : Option PV → Mem → Prop} : WP d 34 72 [l0, l1, l2, l3, l4] (st) M Q = WP d 34 4 [l0, l1, l2, l3, l4] (st) M Q := w_goto mC_34 d34_72 (by decide)
theorem d34_75 : decode cX4_nearestTo 75 = .ok (.iload_n 2, 1) := by decide +kernel
theorem k34_75 {d : Nat} {x : Int32} {l0 l1 l3 l4 : Option PV} {st : List PV} {M : Mem} {Q : Option PV → Mem → Prop} : WP d 34 75 [l0, l1, some (vi x), l3, l4] (st) M Q = WP d 34 76 [l0, l1, some (vi x), l3, l4] (vi x :: st) M Q := w1 mC_34 d34_75 rfl rfl
theorem d34_76 : decode cX4_nearestTo 76 = .ok (.ireturn, 1) := by decide +kernel
theorem k34_76 {d : Nat} {l0 l1 l2 l3 l4 : Option PV} {M : Mem} {Q : Option PV → Mem → Prop} {x : Int32} : WP d 34 76 [l0, l1, l2, l3, l4] ([vi x]) M Q = Q (some (vi x)) M := w_iret mC_34 d34_76 rfl
theorem d35_0 : decode cX4_owing 0 = .ok (.iconst 0, 1) := by decide +kernel
theorem k35_0 {d : Nat} {l0 l1 l2 : Option PV} {st : List PV} {M : Mem} {Q : Option PV → Mem → Prop} : WP d 35 0 [l0, l1, l2] (st) M Q = WP d 35 1 [l0, l1, l2] (vi 0 :: st) M Q := w_iconst mC_35 d35_0 (by decide)
theorem d35_1 : decode cX4_owing 1 = .ok (.istore_n 1, 1) := by decide +kernel
theorem k35_1 {d : Nat} {l0 l1 l2 : Option PV} {st : List PV} {M : Mem} {Q : Option PV → Mem → Prop} {x : Int32} : WP d 35 1 [l0, l1, l2] (vi x :: st) M Q = WP d 35 2 [l0, some (vi x), l2] (st) M Q := w1 mC_35 d35_1 rfl rfl
theorem d35_2 : decode cX4_owing 2 = .ok (.iconst 0, 1) := by decide +kernel
theorem k35_2 {d : Nat} {l0 l1 l2 : Option PV} {st : List PV} {M : Mem} {Q : Option PV → Mem → Prop} : WP d 35 2 [l0, l1, l2] (st) M Q = WP d 35 3 [l0, l1, l2] (vi 0 :: st) M Q := w_iconst mC_35 d35_2 (by decide)
theorem d35_3 : decode cX4_owing 3 = .ok (.istore_n 2, 1) := by decide +kernel
theorem k35_3 {d : Nat} {l0 l1 l2 : Option PV} {st : List PV} {M : Mem} {Q : Option PV → Mem → Prop} {x : Int32} : WP d 35 3 [l0, l1, l2] (vi x :: st) M Q = WP d 35 4 [l0, l1, some (vi x)] (st) M Q := w1 mC_35 d35_3 rfl rfl
theorem d35_4 : decode cX4_owing 4 = .ok (.iload_n 2, 1) := by decide +kernel
theorem k35_4 {d : Nat} {x : Int32} {l0 l1 : Option PV} {st : List PV} {M : Mem} {Q : Option PV → Mem → Prop} : WP d 35 4 [l0, l1, some (vi x)] (st) M Q = WP d 35 5 [l0, l1, some (vi x)] (vi x :: st) M Q := w1 mC_35 d35_4 rfl rfl
theorem d35_5 : decode cX4_owing 5 = .ok (.aload_n 0, 1) := by decide +kernel
theorem k35_5 {d x : Nat} {l1 l2 : Option PV} {st : List PV} {M : Mem} {Q : Option PV → Mem → Prop} : WP d 35 5 [some (vr x), l1, l2] (st) M Q = WP d 35 6 [some (vr x), l1, l2] (vr x :: st) M Q := w1 mC_35 d35_5 rfl rfl
theorem d35_6 : decode cX4_owing 6 = .ok (.getfield 44, 3) := by decide +kernel
theorem k35_6 {d : Nat} {l0 l1 l2 : Option PV} {st : List PV} {M : Mem} {Q : Option PV → Mem → Prop} {r : Nat} (hk : mK M r = 4) : WP d 35 6 [l0, l1, l2] (vr r :: st) M Q = WP d 35 9 [l0, l1, l2] (vi (mI M r 8) :: st) M Q := w_get mC_35 d35_6 fE_4_44 rfl (by rw [hk]; rfl)
theorem d35_9 : decode cX4_owing 9 = .ok (.if_icmp .ge 32, 3) := by decide +kernel
theorem k35_9 {d : Nat} {l0 l1 l2 : Option PV} {st : List PV} {M : Mem} {Q : Option PV → Mem → Prop} {x y : Int32} : WP d 35 9 [l0, l1, l2] (vi y :: vi x :: st) M Q = (if y ≤ x then WP d 35 41 [l0, l1, l2] (st) M Q else WP d 35 12 [l0, l1, l2] (st) M Q) := w_ic_ge mC_35 d35_9 (by decide)
theorem d35_12 : decode cX4_owing 12 = .ok (.iload_n 1, 1) := by decide +kernel
theorem k35_12 {d : Nat} {x : Int32} {l0 l2 : Option PV} {st : List PV} {M : Mem} {Q : Option PV → Mem → Prop} : WP d 35 12 [l0, some (vi x), l2] (st) M Q = WP d 35 13 [l0, some (vi x), l2] (vi x :: st) M Q := w1 mC_35 d35_12 rfl rfl
theorem d35_13 : decode cX4_owing 13 = .ok (.aload_n 0, 1) := by decide +kernel
theorem k35_13 {d x : Nat} {l1 l2 : Option PV} {st : List PV} {M : Mem} {Q : Option PV → Mem → Prop} : WP d 35 13 [some (vr x), l1, l2] (st) M Q = WP d 35 14 [some (vr x), l1, l2] (vr x :: st) M Q := w1 mC_35 d35_13 rfl rfl
theorem d35_14 : decode cX4_owing 14 = .ok (.aload_n 0, 1) := by decide +kernel
theorem k35_14 {d x : Nat} {l1 l2 : Option PV} {st : List PV} {M : Mem} {Q : Option PV → Mem → Prop} : WP d 35 14 [some (vr x), l1, l2] (st) M Q = WP d 35 15 [some (vr x), l1, l2] (vr x :: st) M Q := w1 mC_35 d35_14 rfl rfl
theorem d35_15 : decode cX4_owing 15 = .ok (.getfield 24, 3) := by decide +kernel
theorem k35_15 {d : Nat} {l0 l1 l2 : Option PV} {st : List PV} {M : Mem} {Q : Option PV → Mem → Prop} {r : Nat} (hk : mK M r = 4) : WP d 35 15 [l0, l1, l2] (vr r :: st) M Q = WP d 35 18 [l0, l1, l2] (vr (mR M r 4) :: st) M Q := w_getr mC_35 d35_15 fE_4_24 rfl (by rw [hk]; rfl)
theorem d35_18 : decode cX4_owing 18 = .ok (.iload_n 2, 1) := by decide +kernel
theorem k35_18 {d : Nat} {x : Int32} {l0 l1 : Option PV} {st : List PV} {M : Mem} {Q : Option PV → Mem → Prop} : WP d 35 18 [l0, l1, some (vi x)] (st) M Q = WP d 35 19 [l0, l1, some (vi x)] (vi x :: st) M Q := w1 mC_35 d35_18 rfl rfl
theorem d35_19 : decode cX4_owing 19 = .ok (.iaload, 1) := by decide +kernel
theorem k35_19 {d : Nat} {l0 l1 l2 : Option PV} {st : List PV} {M : Mem} {Q : Option PV → Mem → Prop} {r : Nat} {j : Int32} (hk : mK M r = 13) (hj : inb j (mN M r)) (_h1 : r ≠ 1) : WP d 35 19 [l0, l1, l2] (vi j :: vr r :: st) M Q = WP d 35 20 [l0, l1, l2] (vi (mI M r (ix j)) :: st) M Q := w_iald mC_35 d35_19 hk hj
theorem d35_20 : decode cX4_owing 20 = .ok (.invokevirtual 47, 3) := by decide +kernel
theorem k35_20 {d : Nat} {l0 l1 l2 : Option PV} {st : List PV} {M : Mem} {Q : Option PV → Mem → Prop} {a0 : Int32} {r : Nat} (hl : szL st ≤ 8) (hk : mK M r = 4) : WP (d + 1) 35 20 [l0, l1, l2] (vi a0 :: vr r :: st) M Q = WP d 24 0 [some (vr r), some (vi a0)] [] M (fun v M' => WP (d + 1) 35 23 [l0, l1, l2] (psh v st) M' Q) := w_callV mC_35 d35_20 (ci := 4) rfl rfl rfl (Nat.le_of_ble_eq_true rfl) (by decide) rfl hl (Or.inl hk)
theorem d35_23 : decode cX4_owing 23 = .ok (.ifCond .eq 9, 3) := by decide +kernel
theorem k35_23 {d : Nat} {l0 l1 l2 : Option PV} {st : List PV} {M : Mem} {Q : Option PV → Mem → Prop} {x : Int32} : WP d 35 23 [l0, l1, l2] (vi x :: st) M Q = (if x = 0 then WP d 35 32 [l0, l1, l2] (st) M Q else WP d 35 26 [l0, l1, l2] (st) M Q) := w_if_eq mC_35 d35_23 (by decide)
theorem d35_26 : decode cX4_owing 26 = .ok (.iconst 1, 1) := by decide +kernel
theorem k35_26 {d : Nat} {l0 l1 l2 : Option PV} {st : List PV} {M : Mem} {Q : Option PV → Mem → Prop} : WP d 35 26 [l0, l1, l2] (st) M Q = WP d 35 27 [l0, l1, l2] (vi 1 :: st) M Q := w_iconst mC_35 d35_26 (by decide)
theorem d35_27 : decode cX4_owing 27 = .ok (.iload_n 2, 1) := by decide +kernel
theorem k35_27 {d : Nat} {x : Int32} {l0 l1 : Option PV} {st : List PV} {M : Mem} {Q : Option PV → Mem → Prop} : WP d 35 27 [l0, l1, some (vi x)] (st) M Q = WP d 35 28 [l0, l1, some (vi x)] (vi x :: st) M Q := w1 mC_35 d35_27 rfl rfl
theorem d35_28 : decode cX4_owing 28 = .ok (.ishl, 1) := by decide +kernel
theorem k35_28 {d : Nat} {l0 l1 l2 : Option PV} {st : List PV} {M : Mem} {Q : Option PV → Mem → Prop} {x y : Int32} : WP d 35 28 [l0, l1, l2] (vi y :: vi x :: st) M Q = WP d 35 29 [l0, l1, l2] (vi (x <<< (y &&& 31)) :: st) M Q := w1 mC_35 d35_28 rfl rfl
theorem d35_29 : decode cX4_owing 29 = .ok (.goto 4, 3) := by decide +kernel
theorem k35_29 {d : Nat} {l0 l1 l2 : Option PV} {st : List PV} {M : Mem} {Q : Option PV → Mem → Prop} : WP d 35 29 [l0, l1, l2] (st) M Q = WP d 35 33 [l0, l1, l2] (st) M Q := w_goto mC_35 d35_29 (by decide)
theorem d35_32 : decode cX4_owing 32 = .ok (.iconst 0, 1) := by decide +kernel
theorem k35_32 {d : Nat} {l0 l1 l2 : Option PV} {st : List PV} {M : Mem} {Q : Option PV → Mem → Prop} : WP d 35 32 [l0, l1, l2] (st) M Q = WP d 35 33 [l0, l1, l2] (vi 0 :: st) M Q := w_iconst mC_35 d35_32 (by decide)
theorem d35_33 : decode cX4_owing 33 = .ok (.ior, 1) := by decide +kernel
theorem k35_33 {d : Nat} {l0 l1 l2 : Option PV} {st : List PV} {M : Mem} {Q : Option PV → Mem → Prop} {x y : Int32} : WP d 35 33 [l0, l1, l2] (vi y :: vi x :: st) M Q = WP d 35 34 [l0, l1, l2] (vi (x ||| y) :: st) M Q := w1 mC_35 d35_33 rfl rfl
theorem d35_34 : decode cX4_owing 34 = .ok (.istore_n 1, 1) := by decide +kernel
theorem k35_34 {d : Nat} {l0 l1 l2 : Option PV} {st : List PV} {M : Mem} {Q : Option PV → Mem → Prop} {x : Int32} : WP d 35 34 [l0, l1, l2] (vi x :: st) M Q = WP d 35 35 [l0, some (vi x), l2] (st) M Q := w1 mC_35 d35_34 rfl rfl
theorem d35_35 : decode cX4_owing 35 = .ok (.iinc 2 1, 3) := by decide +kernel
theorem k35_35 {d : Nat} {x : Int32} {l0 l1 : Option PV} {st : List PV} {M : Mem} {Q : Option PV → Mem → Prop} : WP d 35 35 [l0, l1, some (vi x)] (st) M Q = WP d 35 38 [l0, l1, some (vi (x + 1))] (st) M Q := w_iinc mC_35 d35_35 rfl (by decide) rfl
theorem d35_38 : decode cX4_owing 38 = .ok (.goto (-34), 3) := by decide +kernel
theorem k35_38 {d : Nat} {l0 l1 l2 : Option PV} {st : List PV} {M : Mem} {Q : Option PV → Mem → Prop} : WP d 35 38 [l0, l1, l2] (st) M Q = WP d 35 4 [l0, l1, l2] (st) M Q := w_goto mC_35 d35_38 (by decide)
theorem d35_41 : decode cX4_owing 41 = .ok (.iload_n 1, 1) := by decide +kernel
theorem k35_41 {d : Nat} {x : Int32} {l0 l2 : Option PV} {st : List PV} {M : Mem} {Q : Option PV → Mem → Prop} : WP d 35 41 [l0, some (vi x), l2] (st) M Q = WP d 35 42 [l0, some (vi x), l2] (vi x :: st) M Q := w1 mC_35 d35_41 rfl rfl
theorem d35_42 : decode cX4_owing 42 = .ok (.ireturn, 1) := by decide +kernel
theorem k35_42 {d : Nat} {l0 l1 l2 : Option PV} {M : Mem} {Q : Option PV → Mem → Prop} {x : Int32} : WP d 35 42 [l0, l1, l2] ([vi x]) M Q = Q (some (vi x)) M := w_iret mC_35 d35_42 rfl
theorem d36_0 : decode cX4_heldByAll 0 = .ok (.iconst 0, 1) := by decide +kernel
theorem k36_0 {d : Nat} {l0 l1 l2 : Option PV} {st : List PV} {M : Mem} {Q : Option PV → Mem → Prop} : WP d 36 0 [l0, l1, l2] (st) M Q = WP d 36 1 [l0, l1, l2] (vi 0 :: st) M Q := w_iconst mC_36 d36_0 (by decide)
theorem d36_1 : decode cX4_heldByAll 1 = .ok (.istore_n 1, 1) := by decide +kernel
theorem k36_1 {d : Nat} {l0 l1 l2 : Option PV} {st : List PV} {M : Mem} {Q : Option PV → Mem → Prop} {x : Int32} : WP d 36 1 [l0, l1, l2] (vi x :: st) M Q = WP d 36 2 [l0, some (vi x), l2] (st) M Q := w1 mC_36 d36_1 rfl rfl
theorem d36_2 : decode cX4_heldByAll 2 = .ok (.iconst 0, 1) := by decide +kernel
theorem k36_2 {d : Nat} {l0 l1 l2 : Option PV} {st : List PV} {M : Mem} {Q : Option PV → Mem → Prop} : WP d 36 2 [l0, l1, l2] (st) M Q = WP d 36 3 [l0, l1, l2] (vi 0 :: st) M Q := w_iconst mC_36 d36_2 (by decide)
theorem d36_3 : decode cX4_heldByAll 3 = .ok (.istore_n 2, 1) := by decide +kernel
theorem k36_3 {d : Nat} {l0 l1 l2 : Option PV} {st : List PV} {M : Mem} {Q : Option PV → Mem → Prop} {x : Int32} : WP d 36 3 [l0, l1, l2] (vi x :: st) M Q = WP d 36 4 [l0, l1, some (vi x)] (st) M Q := w1 mC_36 d36_3 rfl rfl
theorem d36_4 : decode cX4_heldByAll 4 = .ok (.iload_n 2, 1) := by decide +kernel
theorem k36_4 {d : Nat} {x : Int32} {l0 l1 : Option PV} {st : List PV} {M : Mem} {Q : Option PV → Mem → Prop} : WP d 36 4 [l0, l1, some (vi x)] (st) M Q = WP d 36 5 [l0, l1, some (vi x)] (vi x :: st) M Q := w1 mC_36 d36_4 rfl rfl
theorem d36_5 : decode cX4_heldByAll 5 = .ok (.aload_n 0, 1) := by decide +kernel
theorem k36_5 {d x : Nat} {l1 l2 : Option PV} {st : List PV} {M : Mem} {Q : Option PV → Mem → Prop} : WP d 36 5 [some (vr x), l1, l2] (st) M Q = WP d 36 6 [some (vr x), l1, l2] (vr x :: st) M Q := w1 mC_36 d36_5 rfl rfl
theorem d36_6 : decode cX4_heldByAll 6 = .ok (.getfield 44, 3) := by decide +kernel
theorem k36_6 {d : Nat} {l0 l1 l2 : Option PV} {st : List PV} {M : Mem} {Q : Option PV → Mem → Prop} {r : Nat} (hk : mK M r = 4) : WP d 36 6 [l0, l1, l2] (vr r :: st) M Q = WP d 36 9 [l0, l1, l2] (vi (mI M r 8) :: st) M Q := w_get mC_36 d36_6 fE_4_44 rfl (by rw [hk]; rfl)
theorem d36_9 : decode cX4_heldByAll 9 = .ok (.if_icmp .ge 18, 3) := by decide +kernel
theorem k36_9 {d : Nat} {l0 l1 l2 : Option PV} {st : List PV} {M : Mem} {Q : Option PV → Mem → Prop} {x y : Int32} : WP d 36 9 [l0, l1, l2] (vi y :: vi x :: st) M Q = (if y ≤ x then WP d 36 27 [l0, l1, l2] (st) M Q else WP d 36 12 [l0, l1, l2] (st) M Q) := w_ic_ge mC_36 d36_9 (by decide)
theorem d36_12 : decode cX4_heldByAll 12 = .ok (.iload_n 1, 1) := by decide +kernel
theorem k36_12 {d : Nat} {x : Int32} {l0 l2 : Option PV} {st : List PV} {M : Mem} {Q : Option PV → Mem → Prop} : WP d 36 12 [l0, some (vi x), l2] (st) M Q = WP d 36 13 [l0, some (vi x), l2] (vi x :: st) M Q := w1 mC_36 d36_12 rfl rfl
theorem d36_13 : decode cX4_heldByAll 13 = .ok (.aload_n 0, 1) := by decide +kernel
theorem k36_13 {d x : Nat} {l1 l2 : Option PV} {st : List PV} {M : Mem} {Q : Option PV → Mem → Prop} : WP d 36 13 [some (vr x), l1, l2] (st) M Q = WP d 36 14 [some (vr x), l1, l2] (vr x :: st) M Q := w1 mC_36 d36_13 rfl rfl
theorem d36_14 : decode cX4_heldByAll 14 = .ok (.getfield 27, 3) := by decide +kernel
theorem k36_14 {d : Nat} {l0 l1 l2 : Option PV} {st : List PV} {M : Mem} {Q : Option PV → Mem → Prop} {r : Nat} (hk : mK M r = 4) : WP d 36 14 [l0, l1, l2] (vr r :: st) M Q = WP d 36 17 [l0, l1, l2] (vr (mR M r 5) :: st) M Q := w_getr mC_36 d36_14 fE_4_27 rfl (by rw [hk]; rfl)
theorem d36_17 : decode cX4_heldByAll 17 = .ok (.iload_n 2, 1) := by decide +kernel
theorem k36_17 {d : Nat} {x : Int32} {l0 l1 : Option PV} {st : List PV} {M : Mem} {Q : Option PV → Mem → Prop} : WP d 36 17 [l0, l1, some (vi x)] (st) M Q = WP d 36 18 [l0, l1, some (vi x)] (vi x :: st) M Q := w1 mC_36 d36_17 rfl rfl
theorem d36_18 : decode cX4_heldByAll 18 = .ok (.iaload, 1) := by decide +kernel
theorem k36_18 {d : Nat} {l0 l1 l2 : Option PV} {st : List PV} {M : Mem} {Q : Option PV → Mem → Prop} {r : Nat} {j : Int32} (hk : mK M r = 13) (hj : inb j (mN M r)) (_h1 : r ≠ 1) : WP d 36 18 [l0, l1, l2] (vi j :: vr r :: st) M Q = WP d 36 19 [l0, l1, l2] (vi (mI M r (ix j)) :: st) M Q := w_iald mC_36 d36_18 hk hj
theorem d36_19 : decode cX4_heldByAll 19 = .ok (.iadd, 1) := by decide +kernel
theorem k36_19 {d : Nat} {l0 l1 l2 : Option PV} {st : List PV} {M : Mem} {Q : Option PV → Mem → Prop} {x y : Int32} : WP d 36 19 [l0, l1, l2] (vi y :: vi x :: st) M Q = WP d 36 20 [l0, l1, l2] (vi (x + y) :: st) M Q := w1 mC_36 d36_19 rfl rfl
theorem d36_20 : decode cX4_heldByAll 20 = .ok (.istore_n 1, 1) := by decide +kernel
theorem k36_20 {d : Nat} {l0 l1 l2 : Option PV} {st : List PV} {M : Mem} {Q : Option PV → Mem → Prop} {x : Int32} : WP d 36 20 [l0, l1, l2] (vi x :: st) M Q = WP d 36 21 [l0, some (vi x), l2] (st) M Q := w1 mC_36 d36_20 rfl rfl
theorem d36_21 : decode cX4_heldByAll 21 = .ok (.iinc 2 1, 3) := by decide +kernel
theorem k36_21 {d : Nat} {x : Int32} {l0 l1 : Option PV} {st : List PV} {M : Mem} {Q : Option PV → Mem → Prop} : WP d 36 21 [l0, l1, some (vi x)] (st) M Q = WP d 36 24 [l0, l1, some (vi (x + 1))] (st) M Q := w_iinc mC_36 d36_21 rfl (by decide) rfl
theorem d36_24 : decode cX4_heldByAll 24 = .ok (.goto (-20), 3) := by decide +kernel
theorem k36_24 {d : Nat} {l0 l1 l2 : Option PV} {st : List PV} {M : Mem} {Q : Option PV → Mem → Prop} : WP d 36 24 [l0, l1, l2] (st) M Q = WP d 36 4 [l0, l1, l2] (st) M Q := w_goto mC_36 d36_24 (by decide)
theorem d36_27 : decode cX4_heldByAll 27 = .ok (.iload_n 1, 1) := by decide +kernel
theorem k36_27 {d : Nat} {x : Int32} {l0 l2 : Option PV} {st : List PV} {M : Mem} {Q : Option PV → Mem → Prop} : WP d 36 27 [l0, some (vi x), l2] (st) M Q = WP d 36 28 [l0, some (vi x), l2] (vi x :: st) M Q := w1 mC_36 d36_27 rfl rfl
theorem d36_28 : decode cX4_heldByAll 28 = .ok (.ireturn, 1) := by decide +kernel
theorem k36_28 {d : Nat} {l0 l1 l2 : Option PV} {M : Mem} {Q : Option PV → Mem → Prop} {x : Int32} : WP d 36 28 [l0, l1, l2] ([vi x]) M Q = Q (some (vi x)) M := w_iret mC_36 d36_28 rfl
theorem d37_0 : decode cX4_lend 0 = .ok (.aload_n 0, 1) := by decide +kernel
theorem k37_0 {d x : Nat} {l1 l2 l3 : Option PV} {st : List PV} {M : Mem} {Q : Option PV → Mem → Prop} : WP d 37 0 [some (vr x), l1, l2, l3] (st) M Q = WP d 37 1 [some (vr x), l1, l2, l3] (vr x :: st) M Q := w1 mC_37 d37_0 rfl rfl
theorem d37_1 : decode cX4_lend 1 = .ok (.getfield 24, 3) := by decide +kernel
theorem k37_1 {d : Nat} {l0 l1 l2 l3 : Option PV} {st : List PV} {M : Mem} {Q : Option PV → Mem → Prop} {r : Nat} (hk : mK M r = 4) : WP d 37 1 [l0, l1, l2, l3] (vr r :: st) M Q = WP d 37 4 [l0, l1, l2, l3] (vr (mR M r 4) :: st) M Q := w_getr mC_37 d37_1 fE_4_24 rfl (by rw [hk]; rfl)
theorem d37_4 : decode cX4_lend 4 = .ok (.iload_n 2, 1) := by decide +kernel
theorem k37_4 {d : Nat} {x : Int32} {l0 l1 l3 : Option PV} {st : List PV} {M : Mem} {Q : Option PV → Mem → Prop} : WP d 37 4 [l0, l1, some (vi x), l3] (st) M Q = WP d 37 5 [l0, l1, some (vi x), l3] (vi x :: st) M Q := w1 mC_37 d37_4 rfl rfl
theorem d37_5 : decode cX4_lend 5 = .ok (.iload_n 1, 1) := by decide +kernel
theorem k37_5 {d : Nat} {x : Int32} {l0 l2 l3 : Option PV} {st : List PV} {M : Mem} {Q : Option PV → Mem → Prop} : WP d 37 5 [l0, some (vi x), l2, l3] (st) M Q = WP d 37 6 [l0, some (vi x), l2, l3] (vi x :: st) M Q := w1 mC_37 d37_5 rfl rfl
theorem d37_6 : decode cX4_lend 6 = .ok (.iastore, 1) := by decide +kernel
theorem k37_6 {d : Nat} {l0 l1 l2 l3 : Option PV} {st : List PV} {M : Mem} {Q : Option PV → Mem → Prop} {r : Nat} {j x : Int32} (hk : mK M r = 13) (hj : inb j (mN M r)) (h1 : r ≠ 1) : WP d 37 6 [l0, l1, l2, l3] (vi x :: vi j :: vr r :: st) M Q = WP d 37 7 [l0, l1, l2, l3] (st) (sI M r (ix j) x) Q := w_iast mC_37 d37_6 hk hj h1
theorem d37_7 : decode cX4_lend 7 = .ok (.aload_n 0, 1) := by decide +kernel
theorem k37_7 {d x : Nat} {l1 l2 l3 : Option PV} {st : List PV} {M : Mem} {Q : Option PV → Mem → Prop} : WP d 37 7 [some (vr x), l1, l2, l3] (st) M Q = WP d 37 8 [some (vr x), l1, l2, l3] (vr x :: st) M Q := w1 mC_37 d37_7 rfl rfl
theorem d37_8 : decode cX4_lend 8 = .ok (.getfield 27, 3) := by decide +kernel
theorem k37_8 {d : Nat} {l0 l1 l2 l3 : Option PV} {st : List PV} {M : Mem} {Q : Option PV → Mem → Prop} {r : Nat} (hk : mK M r = 4) : WP d 37 8 [l0, l1, l2, l3] (vr r :: st) M Q = WP d 37 11 [l0, l1, l2, l3] (vr (mR M r 5) :: st) M Q := w_getr mC_37 d37_8 fE_4_27 rfl (by rw [hk]; rfl)
theorem d37_11 : decode cX4_lend 11 = .ok (.iload_n 2, 1) := by decide +kernel
theorem k37_11 {d : Nat} {x : Int32} {l0 l1 l3 : Option PV} {st : List PV} {M : Mem} {Q : Option PV → Mem → Prop} : WP d 37 11 [l0, l1, some (vi x), l3] (st) M Q = WP d 37 12 [l0, l1, some (vi x), l3] (vi x :: st) M Q := w1 mC_37 d37_11 rfl rfl
theorem d37_12 : decode cX4_lend 12 = .ok (.iload_n 3, 1) := by decide +kernel
theorem k37_12 {d : Nat} {x : Int32} {l0 l1 l2 : Option PV} {st : List PV} {M : Mem} {Q : Option PV → Mem → Prop} : WP d 37 12 [l0, l1, l2, some (vi x)] (st) M Q = WP d 37 13 [l0, l1, l2, some (vi x)] (vi x :: st) M Q := w1 mC_37 d37_12 rfl rfl
theorem d37_13 : decode cX4_lend 13 = .ok (.iastore, 1) := by decide +kernel
theorem k37_13 {d : Nat} {l0 l1 l2 l3 : Option PV} {st : List PV} {M : Mem} {Q : Option PV → Mem → Prop} {r : Nat} {j x : Int32} (hk : mK M r = 13) (hj : inb j (mN M r)) (h1 : r ≠ 1) : WP d 37 13 [l0, l1, l2, l3] (vi x :: vi j :: vr r :: st) M Q = WP d 37 14 [l0, l1, l2, l3] (st) (sI M r (ix j) x) Q := w_iast mC_37 d37_13 hk hj h1
theorem d37_14 : decode cX4_lend 14 = .ok (.return_, 1) := by decide +kernel
theorem k37_14 {d : Nat} {l0 l1 l2 l3 : Option PV} {M : Mem} {Q : Option PV → Mem → Prop} : WP d 37 14 [l0, l1, l2, l3] ([]) M Q = Q none M := w_vret mC_37 d37_14 rfl
theorem d38_0 : decode cX4_owesNothing 0 = .ok (.aload_n 0, 1) := by decide +kernel
theorem k38_0 {d x : Nat} {l1 : Option PV} {st : List PV} {M : Mem} {Q : Option PV → Mem → Prop} : WP d 38 0 [some (vr x), l1] (st) M Q = WP d 38 1 [some (vr x), l1] (vr x :: st) M Q := w1 mC_38 d38_0 rfl rfl
theorem d38_1 : decode cX4_owesNothing 1 = .ok (.getfield 24, 3) := by decide +kernel
theorem k38_1 {d : Nat} {l0 l1 : Option PV} {st : List PV} {M : Mem} {Q : Option PV → Mem → Prop} {r : Nat} (hk : mK M r = 4) : WP d 38 1 [l0, l1] (vr r :: st) M Q = WP d 38 4 [l0, l1] (vr (mR M r 4) :: st) M Q := w_getr mC_38 d38_1 fE_4_24 rfl (by rw [hk]; rfl)
theorem d38_4 : decode cX4_owesNothing 4 = .ok (.iload_n 1, 1) := by decide +kernel
theorem k38_4 {d : Nat} {x : Int32} {l0 : Option PV} {st : List PV} {M : Mem} {Q : Option PV → Mem → Prop} : WP d 38 4 [l0, some (vi x)] (st) M Q = WP d 38 5 [l0, some (vi x)] (vi x :: st) M Q := w1 mC_38 d38_4 rfl rfl
theorem d38_5 : decode cX4_owesNothing 5 = .ok (.iconst (-1), 1) := by decide +kernel
theorem k38_5 {d : Nat} {l0 l1 : Option PV} {st : List PV} {M : Mem} {Q : Option PV → Mem → Prop} : WP d 38 5 [l0, l1] (st) M Q = WP d 38 6 [l0, l1] (vi (-1) :: st) M Q := w_iconst mC_38 d38_5 (by decide)
theorem d38_6 : decode cX4_owesNothing 6 = .ok (.iastore, 1) := by decide +kernel
theorem k38_6 {d : Nat} {l0 l1 : Option PV} {st : List PV} {M : Mem} {Q : Option PV → Mem → Prop} {r : Nat} {j x : Int32} (hk : mK M r = 13) (hj : inb j (mN M r)) (h1 : r ≠ 1) : WP d 38 6 [l0, l1] (vi x :: vi j :: vr r :: st) M Q = WP d 38 7 [l0, l1] (st) (sI M r (ix j) x) Q := w_iast mC_38 d38_6 hk hj h1
theorem d38_7 : decode cX4_owesNothing 7 = .ok (.aload_n 0, 1) := by decide +kernel
theorem k38_7 {d x : Nat} {l1 : Option PV} {st : List PV} {M : Mem} {Q : Option PV → Mem → Prop} : WP d 38 7 [some (vr x), l1] (st) M Q = WP d 38 8 [some (vr x), l1] (vr x :: st) M Q := w1 mC_38 d38_7 rfl rfl
theorem d38_8 : decode cX4_owesNothing 8 = .ok (.getfield 27, 3) := by decide +kernel
theorem k38_8 {d : Nat} {l0 l1 : Option PV} {st : List PV} {M : Mem} {Q : Option PV → Mem → Prop} {r : Nat} (hk : mK M r = 4) : WP d 38 8 [l0, l1] (vr r :: st) M Q = WP d 38 11 [l0, l1] (vr (mR M r 5) :: st) M Q := w_getr mC_38 d38_8 fE_4_27 rfl (by rw [hk]; rfl)
theorem d38_11 : decode cX4_owesNothing 11 = .ok (.iload_n 1, 1) := by decide +kernel
theorem k38_11 {d : Nat} {x : Int32} {l0 : Option PV} {st : List PV} {M : Mem} {Q : Option PV → Mem → Prop} : WP d 38 11 [l0, some (vi x)] (st) M Q = WP d 38 12 [l0, some (vi x)] (vi x :: st) M Q := w1 mC_38 d38_11 rfl rfl
theorem d38_12 : decode cX4_owesNothing 12 = .ok (.iconst 0, 1) := by decide +kernel
theorem k38_12 {d : Nat} {l0 l1 : Option PV} {st : List PV} {M : Mem} {Q : Option PV → Mem → Prop} : WP d 38 12 [l0, l1] (st) M Q = WP d 38 13 [l0, l1] (vi 0 :: st) M Q := w_iconst mC_38 d38_12 (by decide)
theorem d38_13 : decode cX4_owesNothing 13 = .ok (.iastore, 1) := by decide +kernel
theorem k38_13 {d : Nat} {l0 l1 : Option PV} {st : List PV} {M : Mem} {Q : Option PV → Mem → Prop} {r : Nat} {j x : Int32} (hk : mK M r = 13) (hj : inb j (mN M r)) (h1 : r ≠ 1) : WP d 38 13 [l0, l1] (vi x :: vi j :: vr r :: st) M Q = WP d 38 14 [l0, l1] (st) (sI M r (ix j) x) Q := w_iast mC_38 d38_13 hk hj h1
theorem d38_14 : decode cX4_owesNothing 14 = .ok (.return_, 1) := by decide +kernel
theorem k38_14 {d : Nat} {l0 l1 : Option PV} {M : Mem} {Q : Option PV → Mem → Prop} : WP d 38 14 [l0, l1] ([]) M Q = Q none M := w_vret mC_38 d38_14 rfl
theorem d39_0 : decode cX4_meetCart 0 = .ok (.aload_n 0, 1) := by decide +kernel
theorem k39_0 {d x : Nat} {l1 l2 : Option PV} {st : List PV} {M : Mem} {Q : Option PV → Mem → Prop} : WP d 39 0 [some (vr x), l1, l2] (st) M Q = WP d 39 1 [some (vr x), l1, l2] (vr x :: st) M Q := w1 mC_39 d39_0 rfl rfl
theorem d39_1 : decode cX4_meetCart 1 = .ok (.getfield 44, 3) := by decide +kernel
theorem k39_1 {d : Nat} {l0 l1 l2 : Option PV} {st : List PV} {M : Mem} {Q : Option PV → Mem → Prop} {r : Nat} (hk : mK M r = 4) : WP d 39 1 [l0, l1, l2] (vr r :: st) M Q = WP d 39 4 [l0, l1, l2] (vi (mI M r 8) :: st) M Q := w_get mC_39 d39_1 fE_4_44 rfl (by rw [hk]; rfl)
theorem d39_4 : decode cX4_meetCart 4 = .ok (.ifCond .le 27, 3) := by decide +kernel
theorem k39_4 {d : Nat} {l0 l1 l2 : Option PV} {st : List PV} {M : Mem} {Q : Option PV → Mem → Prop} {x : Int32} : WP d 39 4 [l0, l1, l2] (vi x :: st) M Q = (if x ≤ 0 then WP d 39 31 [l0, l1, l2] (st) M Q else WP d 39 7 [l0, l1, l2] (st) M Q) := w_if_le mC_39 d39_4 (by decide)
theorem d39_7 : decode cX4_meetCart 7 = .ok (.iload_n 1, 1) := by decide +kernel
theorem k39_7 {d : Nat} {x : Int32} {l0 l2 : Option PV} {st : List PV} {M : Mem} {Q : Option PV → Mem → Prop} : WP d 39 7 [l0, some (vi x), l2] (st) M Q = WP d 39 8 [l0, some (vi x), l2] (vi x :: st) M Q := w1 mC_39 d39_7 rfl rfl
theorem d39_8 : decode cX4_meetCart 8 = .ok (.bipush 16, 2) := by decide +kernel
theorem k39_8 {d : Nat} {l0 l1 l2 : Option PV} {st : List PV} {M : Mem} {Q : Option PV → Mem → Prop} : WP d 39 8 [l0, l1, l2] (st) M Q = WP d 39 10 [l0, l1, l2] (vi 16 :: st) M Q := w_bipush mC_39 d39_8 (by decide)
theorem d39_10 : decode cX4_meetCart 10 = .ok (.iushr, 1) := by decide +kernel
theorem k39_10 {d : Nat} {l0 l1 l2 : Option PV} {st : List PV} {M : Mem} {Q : Option PV → Mem → Prop} {x y : Int32} : WP d 39 10 [l0, l1, l2] (vi y :: vi x :: st) M Q = WP d 39 11 [l0, l1, l2] (vi ((x.toUInt32 >>> (y.toUInt32 &&& Int32.toUInt32 31)).toInt32) :: st) M Q := w1 mC_39 d39_10 rfl rfl
theorem d39_11 : decode cX4_meetCart 11 = .ok (.bipush 100, 2) := by decide +kernel
theorem k39_11 {d : Nat} {l0 l1 l2 : Option PV} {st : List PV} {M : Mem} {Q : Option PV → Mem → Prop} : WP d 39 11 [l0, l1, l2] (st) M Q = WP d 39 13 [l0, l1, l2] (vi 100 :: st) M Q := w_bipush mC_39 d39_11 (by decide)
theorem d39_13 : decode cX4_meetCart 13 = .ok (.irem, 1) := by decide +kernel
theorem k39_13 {d : Nat} {l0 l1 l2 : Option PV} {st : List PV} {M : Mem} {Q : Option PV → Mem → Prop} {x y : Int32} (h : y ≠ 0) : WP d 39 13 [l0, l1, l2] (vi y :: vi x :: st) M Q = WP d 39 14 [l0, l1, l2] (vi (x % y) :: st) M Q := w_rem mC_39 d39_13 h
theorem d39_14 : decode cX4_meetCart 14 = .ok (.iload_n 2, 1) := by decide +kernel
theorem k39_14 {d : Nat} {x : Int32} {l0 l1 : Option PV} {st : List PV} {M : Mem} {Q : Option PV → Mem → Prop} : WP d 39 14 [l0, l1, some (vi x)] (st) M Q = WP d 39 15 [l0, l1, some (vi x)] (vi x :: st) M Q := w1 mC_39 d39_14 rfl rfl
theorem d39_15 : decode cX4_meetCart 15 = .ok (.if_icmp .ge 16, 3) := by decide +kernel
theorem k39_15 {d : Nat} {l0 l1 l2 : Option PV} {st : List PV} {M : Mem} {Q : Option PV → Mem → Prop} {x y : Int32} : WP d 39 15 [l0, l1, l2] (vi y :: vi x :: st) M Q = (if y ≤ x then WP d 39 31 [l0, l1, l2] (st) M Q else WP d 39 18 [l0, l1, l2] (st) M Q) := w_ic_ge mC_39 d39_15 (by decide)
theorem d39_18 : decode cX4_meetCart 18 = .ok (.aload_n 0, 1) := by decide +kernel
theorem k39_18 {d x : Nat} {l1 l2 : Option PV} {st : List PV} {M : Mem} {Q : Option PV → Mem → Prop} : WP d 39 18 [some (vr x), l1, l2] (st) M Q = WP d 39 19 [some (vr x), l1, l2] (vr x :: st) M Q := w1 mC_39 d39_18 rfl rfl
theorem d39_19 : decode cX4_meetCart 19 = .ok (.iload_n 1, 1) := by decide +kernel
theorem k39_19 {d : Nat} {x : Int32} {l0 l2 : Option PV} {st : List PV} {M : Mem} {Q : Option PV → Mem → Prop} : WP d 39 19 [l0, some (vi x), l2] (st) M Q = WP d 39 20 [l0, some (vi x), l2] (vi x :: st) M Q := w1 mC_39 d39_19 rfl rfl
theorem d39_20 : decode cX4_meetCart 20 = .ok (.bipush 8, 2) := by decide +kernel
theorem k39_20 {d : Nat} {l0 l1 l2 : Option PV} {st : List PV} {M : Mem} {Q : Option PV → Mem → Prop} : WP d 39 20 [l0, l1, l2] (st) M Q = WP d 39 22 [l0, l1, l2] (vi 8 :: st) M Q := w_bipush mC_39 d39_20 (by decide)
theorem d39_22 : decode cX4_meetCart 22 = .ok (.iushr, 1) := by decide +kernel
theorem k39_22 {d : Nat} {l0 l1 l2 : Option PV} {st : List PV} {M : Mem} {Q : Option PV → Mem → Prop} {x y : Int32} : WP d 39 22 [l0, l1, l2] (vi y :: vi x :: st) M Q = WP d 39 23 [l0, l1, l2] (vi ((x.toUInt32 >>> (y.toUInt32 &&& Int32.toUInt32 31)).toInt32) :: st) M Q := w1 mC_39 d39_22 rfl rfl
theorem d39_23 : decode cX4_meetCart 23 = .ok (.aload_n 0, 1) := by decide +kernel
theorem k39_23 {d x : Nat} {l1 l2 : Option PV} {st : List PV} {M : Mem} {Q : Option PV → Mem → Prop} : WP d 39 23 [some (vr x), l1, l2] (st) M Q = WP d 39 24 [some (vr x), l1, l2] (vr x :: st) M Q := w1 mC_39 d39_23 rfl rfl
theorem d39_24 : decode cX4_meetCart 24 = .ok (.getfield 44, 3) := by decide +kernel
theorem k39_24 {d : Nat} {l0 l1 l2 : Option PV} {st : List PV} {M : Mem} {Q : Option PV → Mem → Prop} {r : Nat} (hk : mK M r = 4) : WP d 39 24 [l0, l1, l2] (vr r :: st) M Q = WP d 39 27 [l0, l1, l2] (vi (mI M r 8) :: st) M Q := w_get mC_39 d39_24 fE_4_44 rfl (by rw [hk]; rfl)
theorem d39_27 : decode cX4_meetCart 27 = .ok (.irem, 1) := by decide +kernel
theorem k39_27 {d : Nat} {l0 l1 l2 : Option PV} {st : List PV} {M : Mem} {Q : Option PV → Mem → Prop} {x y : Int32} (h : y ≠ 0) : WP d 39 27 [l0, l1, l2] (vi y :: vi x :: st) M Q = WP d 39 28 [l0, l1, l2] (vi (x % y) :: st) M Q := w_rem mC_39 d39_27 h
theorem d39_28 : decode cX4_meetCart 28 = .ok (.invokevirtual 81, 3) := by decide +kernel
theorem k39_28 {d : Nat} {l0 l1 l2 : Option PV} {st : List PV} {M : Mem} {Q : Option PV → Mem → Prop} {a0 : Int32} {r : Nat} (hl : szL st ≤ 8) (hk : mK M r = 4) : WP (d + 1) 39 28 [l0, l1, l2] (vi a0 :: vr r :: st) M Q = WP d 38 0 [some (vr r), some (vi a0)] [] M (fun v M' => WP (d + 1) 39 31 [l0, l1, l2] (psh v st) M' Q) := w_callV mC_39 d39_28 (ci := 4) rfl rfl rfl (Nat.le_of_ble_eq_true rfl) (by decide) rfl hl (Or.inl hk)
theorem d39_31 : decode cX4_meetCart 31 = .ok (.return_, 1) := by decide +kernel
theorem k39_31 {d : Nat} {l0 l1 l2 : Option PV} {M : Mem} {Q : Option PV → Mem → Prop} : WP d 39 31 [l0, l1, l2] ([]) M Q = Q none M := w_vret mC_39 d39_31 rfl
theorem d40_0 : decode cX4_lossOf 0 = .ok (.aload_n 0, 1) := by decide +kernel
theorem k40_0 {d x : Nat} {l1 l2 l3 l4 l5 : Option PV} {st : List PV} {M : Mem} {Q : Option PV → Mem → Prop} : WP d 40 0 [some (vr x), l1, l2, l3, l4, l5] (st) M Q = WP d 40 1 [some (vr x), l1, l2, l3, l4, l5] (vr x :: st) M Q := w1 mC_40 d40_0 rfl rfl
theorem d40_1 : decode cX4_lossOf 1 = .ok (.getfield 24, 3) := by decide +kernel
theorem k40_1 {d : Nat} {l0 l1 l2 l3 l4 l5 : Option PV} {st : List PV} {M : Mem} {Q : Option PV → Mem → Prop} {r : Nat} (hk : mK M r = 4) : WP d 40 1 [l0, l1, l2, l3, l4, l5] (vr r :: st) M Q = WP d 40 4 [l0, l1, l2, l3, l4, l5] (vr (mR M r 4) :: st) M Q := w_getr mC_40 d40_1 fE_4_24 rfl (by rw [hk]; rfl)
theorem d40_4 : decode cX4_lossOf 4 = .ok (.iload_n 1, 1) := by decide +kernel
theorem k40_4 {d : Nat} {x : Int32} {l0 l2 l3 l4 l5 : Option PV} {st : List PV} {M : Mem} {Q : Option PV → Mem → Prop} : WP d 40 4 [l0, some (vi x), l2, l3, l4, l5] (st) M Q = WP d 40 5 [l0, some (vi x), l2, l3, l4, l5] (vi x :: st) M Q := w1 mC_40 d40_4 rfl rfl
theorem d40_5 : decode cX4_lossOf 5 = .ok (.iaload, 1) := by decide +kernel
theorem k40_5 {d : Nat} {l0 l1 l2 l3 l4 l5 : Option PV} {st : List PV} {M : Mem} {Q : Option PV → Mem → Prop} {r : Nat} {j : Int32} (hk : mK M r = 13) (hj : inb j (mN M r)) (_h1 : r ≠ 1) : WP d 40 5 [l0, l1, l2, l3, l4, l5] (vi j :: vr r :: st) M Q = WP d 40 6 [l0, l1, l2, l3, l4, l5] (vi (mI M r (ix j)) :: st) M Q := w_iald mC_40 d40_5 hk hj
theorem d40_6 : decode cX4_lossOf 6 = .ok (.istore_n 3, 1) := by decide +kernel
theorem k40_6 {d : Nat} {l0 l1 l2 l3 l4 l5 : Option PV} {st : List PV} {M : Mem} {Q : Option PV → Mem → Prop} {x : Int32} : WP d 40 6 [l0, l1, l2, l3, l4, l5] (vi x :: st) M Q = WP d 40 7 [l0, l1, l2, some (vi x), l4, l5] (st) M Q := w1 mC_40 d40_6 rfl rfl
theorem d40_7 : decode cX4_lossOf 7 = .ok (.aload_n 0, 1) := by decide +kernel
theorem k40_7 {d x : Nat} {l1 l2 l3 l4 l5 : Option PV} {st : List PV} {M : Mem} {Q : Option PV → Mem → Prop} : WP d 40 7 [some (vr x), l1, l2, l3, l4, l5] (st) M Q = WP d 40 8 [some (vr x), l1, l2, l3, l4, l5] (vr x :: st) M Q := w1 mC_40 d40_7 rfl rfl
theorem d40_8 : decode cX4_lossOf 8 = .ok (.iload_n 3, 1) := by decide +kernel
theorem k40_8 {d : Nat} {x : Int32} {l0 l1 l2 l4 l5 : Option PV} {st : List PV} {M : Mem} {Q : Option PV → Mem → Prop} : WP d 40 8 [l0, l1, l2, some (vi x), l4, l5] (st) M Q = WP d 40 9 [l0, l1, l2, some (vi x), l4, l5] (vi x :: st) M Q := w1 mC_40 d40_8 rfl rfl
theorem d40_9 : decode cX4_lossOf 9 = .ok (.invokevirtual 47, 3) := by decide +kernel
theorem k40_9 {d : Nat} {l0 l1 l2 l3 l4 l5 : Option PV} {st : List PV} {M : Mem} {Q : Option PV → Mem → Prop} {a0 : Int32} {r : Nat} (hl : szL st ≤ 8) (hk : mK M r = 4) : WP (d + 1) 40 9 [l0, l1, l2, l3, l4, l5] (vi a0 :: vr r :: st) M Q = WP d 24 0 [some (vr r), some (vi a0)] [] M (fun v M' => WP (d + 1) 40 12 [l0, l1, l2, l3, l4, l5] (psh v st) M' Q) := w_callV mC_40 d40_9 (ci := 4) rfl rfl rfl (Nat.le_of_ble_eq_true rfl) (by decide) rfl hl (Or.inl hk)
theorem d40_12 : decode cX4_lossOf 12 = .ok (.ifCond .ne 5, 3) := by decide +kernel
theorem k40_12 {d : Nat} {l0 l1 l2 l3 l4 l5 : Option PV} {st : List PV} {M : Mem} {Q : Option PV → Mem → Prop} {x : Int32} : WP d 40 12 [l0, l1, l2, l3, l4, l5] (vi x :: st) M Q = (if x = 0 then WP d 40 15 [l0, l1, l2, l3, l4, l5] (st) M Q else WP d 40 17 [l0, l1, l2, l3, l4, l5] (st) M Q) := w_if_ne mC_40 d40_12 (by decide)
theorem d40_15 : decode cX4_lossOf 15 = .ok (.iconst 0, 1) := by decide +kernel
theorem k40_15 {d : Nat} {l0 l1 l2 l3 l4 l5 : Option PV} {st : List PV} {M : Mem} {Q : Option PV → Mem → Prop} : WP d 40 15 [l0, l1, l2, l3, l4, l5] (st) M Q = WP d 40 16 [l0, l1, l2, l3, l4, l5] (vi 0 :: st) M Q := w_iconst mC_40 d40_15 (by decide)
theorem d40_16 : decode cX4_lossOf 16 = .ok (.ireturn, 1) := by decide +kernel
theorem k40_16 {d : Nat} {l0 l1 l2 l3 l4 l5 : Option PV} {M : Mem} {Q : Option PV → Mem → Prop} {x : Int32} : WP d 40 16 [l0, l1, l2, l3, l4, l5] ([vi x]) M Q = Q (some (vi x)) M := w_iret mC_40 d40_16 rfl
theorem d40_17 : decode cX4_lossOf 17 = .ok (.aload_n 0, 1) := by decide +kernel
theorem k40_17 {d x : Nat} {l1 l2 l3 l4 l5 : Option PV} {st : List PV} {M : Mem} {Q : Option PV → Mem → Prop} : WP d 40 17 [some (vr x), l1, l2, l3, l4, l5] (st) M Q = WP d 40 18 [some (vr x), l1, l2, l3, l4, l5] (vr x :: st) M Q := w1 mC_40 d40_17 rfl rfl
theorem d40_18 : decode cX4_lossOf 18 = .ok (.getfield 18, 3) := by decide +kernel
theorem k40_18 {d : Nat} {l0 l1 l2 l3 l4 l5 : Option PV} {st : List PV} {M : Mem} {Q : Option PV → Mem → Prop} {r : Nat} (hk : mK M r = 4) : WP d 40 18 [l0, l1, l2, l3, l4, l5] (vr r :: st) M Q = WP d 40 21 [l0, l1, l2, l3, l4, l5] (vr (mR M r 2) :: st) M Q := w_getr mC_40 d40_18 fE_4_18 rfl (by rw [hk]; rfl)
theorem d40_21 : decode cX4_lossOf 21 = .ok (.iload_n 1, 1) := by decide +kernel
theorem k40_21 {d : Nat} {x : Int32} {l0 l2 l3 l4 l5 : Option PV} {st : List PV} {M : Mem} {Q : Option PV → Mem → Prop} : WP d 40 21 [l0, some (vi x), l2, l3, l4, l5] (st) M Q = WP d 40 22 [l0, some (vi x), l2, l3, l4, l5] (vi x :: st) M Q := w1 mC_40 d40_21 rfl rfl
theorem d40_22 : decode cX4_lossOf 22 = .ok (.iaload, 1) := by decide +kernel
theorem k40_22 {d : Nat} {l0 l1 l2 l3 l4 l5 : Option PV} {st : List PV} {M : Mem} {Q : Option PV → Mem → Prop} {r : Nat} {j : Int32} (hk : mK M r = 13) (hj : inb j (mN M r)) (_h1 : r ≠ 1) : WP d 40 22 [l0, l1, l2, l3, l4, l5] (vi j :: vr r :: st) M Q = WP d 40 23 [l0, l1, l2, l3, l4, l5] (vi (mI M r (ix j)) :: st) M Q := w_iald mC_40 d40_22 hk hj
theorem d40_23 : decode cX4_lossOf 23 = .ok (.aload_n 0, 1) := by decide +kernel
theorem k40_23 {d x : Nat} {l1 l2 l3 l4 l5 : Option PV} {st : List PV} {M : Mem} {Q : Option PV → Mem → Prop} : WP d 40 23 [some (vr x), l1, l2, l3, l4, l5] (st) M Q = WP d 40 24 [some (vr x), l1, l2, l3, l4, l5] (vr x :: st) M Q := w1 mC_40 d40_23 rfl rfl
theorem d40_24 : decode cX4_lossOf 24 = .ok (.getfield 9, 3) := by decide +kernel
theorem k40_24 {d : Nat} {l0 l1 l2 l3 l4 l5 : Option PV} {st : List PV} {M : Mem} {Q : Option PV → Mem → Prop} {r : Nat} (hk : mK M r = 4) : WP d 40 24 [l0, l1, l2, l3, l4, l5] (vr r :: st) M Q = WP d 40 27 [l0, l1, l2, l3, l4, l5] (vr (mR M r 0) :: st) M Q := w_getr mC_40 d40_24 fE_4_9 rfl (by rw [hk]; rfl)
theorem d40_27 : decode cX4_lossOf 27 = .ok (.iload_n 3, 1) := by decide +kernel
theorem k40_27 {d : Nat} {x : Int32} {l0 l1 l2 l4 l5 : Option PV} {st : List PV} {M : Mem} {Q : Option PV → Mem → Prop} : WP d 40 27 [l0, l1, l2, some (vi x), l4, l5] (st) M Q = WP d 40 28 [l0, l1, l2, some (vi x), l4, l5] (vi x :: st) M Q := w1 mC_40 d40_27 rfl rfl
theorem d40_28 : decode cX4_lossOf 28 = .ok (.iaload, 1) := by decide +kernel
theorem k40_28 {d : Nat} {l0 l1 l2 l3 l4 l5 : Option PV} {st : List PV} {M : Mem} {Q : Option PV → Mem → Prop} {r : Nat} {j : Int32} (hk : mK M r = 13) (hj : inb j (mN M r)) (_h1 : r ≠ 1) : WP d 40 28 [l0, l1, l2, l3, l4, l5] (vi j :: vr r :: st) M Q = WP d 40 29 [l0, l1, l2, l3, l4, l5] (vi (mI M r (ix j)) :: st) M Q := w_iald mC_40 d40_28 hk hj
theorem d40_29 : decode cX4_lossOf 29 = .ok (.invokestatic 77, 3) := by decide +kernel
theorem k40_29 {d : Nat} {l0 l1 l2 l3 l4 l5 : Option PV} {st : List PV} {M : Mem} {Q : Option PV → Mem → Prop} {a0 a1 : Int32} (hl : szL st ≤ 8) : WP (d + 1) 40 29 [l0, l1, l2, l3, l4, l5] (vi a1 :: vi a0 :: st) M Q = WP d 33 0 [some (vi a0), some (vi a1)] [] M (fun v M' => WP (d + 1) 40 32 [l0, l1, l2, l3, l4, l5] (psh v st) M' Q) := w_callS mC_40 d40_29 rfl rfl (Nat.le_of_ble_eq_true rfl) (by decide) rfl hl
theorem d40_32 : decode cX4_lossOf 32 = .ok (.istore 4, 2) := by decide +kernel
theorem k40_32 {d : Nat} {l0 l1 l2 l3 l4 l5 : Option PV} {st : List PV} {M : Mem} {Q : Option PV → Mem → Prop} {x : Int32} : WP d 40 32 [l0, l1, l2, l3, l4, l5] (vi x :: st) M Q = WP d 40 34 [l0, l1, l2, l3, some (vi x), l5] (st) M Q := w1 mC_40 d40_32 rfl rfl
theorem d40_34 : decode cX4_lossOf 34 = .ok (.aload_n 2, 1) := by decide +kernel
theorem k40_34 {d x : Nat} {l0 l1 l3 l4 l5 : Option PV} {st : List PV} {M : Mem} {Q : Option PV → Mem → Prop} : WP d 40 34 [l0, l1, some (vr x), l3, l4, l5] (st) M Q = WP d 40 35 [l0, l1, some (vr x), l3, l4, l5] (vr x :: st) M Q := w1 mC_40 d40_34 rfl rfl
theorem d40_35 : decode cX4_lossOf 35 = .ok (.invokevirtual 85, 3) := by decide +kernel
theorem k40_35 {d : Nat} {l0 l1 l2 l3 l4 l5 : Option PV} {st : List PV} {M : Mem} {Q : Option PV → Mem → Prop} {r : Nat} (hl : szL st ≤ 8) (hk : mK M r = 3) : WP (d + 1) 40 35 [l0, l1, l2, l3, l4, l5] (vr r :: st) M Q = WP d 8 0 [some (vr r)] [] M (fun v M' => WP (d + 1) 40 38 [l0, l1, l2, l3, l4, l5] (psh v st) M' Q) := w_callV mC_40 d40_35 (ci := 3) rfl rfl rfl (Nat.le_of_ble_eq_true rfl) (by decide) rfl hl (Or.inl hk)
theorem d40_38 : decode cX4_lossOf 38 = .ok (.ifCond .eq 30, 3) := by decide +kernel
theorem k40_38 {d : Nat} {l0 l1 l2 l3 l4 l5 : Option PV} {st : List PV} {M : Mem} {Q : Option PV → Mem → Prop} {x : Int32} : WP d 40 38 [l0, l1, l2, l3, l4, l5] (vi x :: st) M Q = (if x = 0 then WP d 40 68 [l0, l1, l2, l3, l4, l5] (st) M Q else WP d 40 41 [l0, l1, l2, l3, l4, l5] (st) M Q) := w_if_eq mC_40 d40_38 (by decide)
theorem d40_41 : decode cX4_lossOf 41 = .ok (.aload_n 2, 1) := by decide +kernel
theorem k40_41 {d x : Nat} {l0 l1 l3 l4 l5 : Option PV} {st : List PV} {M : Mem} {Q : Option PV → Mem → Prop} : WP d 40 41 [l0, l1, some (vr x), l3, l4, l5] (st) M Q = WP d 40 42 [l0, l1, some (vr x), l3, l4, l5] (vr x :: st) M Q := w1 mC_40 d40_41 rfl rfl
theorem d40_42 : decode cX4_lossOf 42 = .ok (.aload_n 0, 1) := by decide +kernel
theorem k40_42 {d x : Nat} {l1 l2 l3 l4 l5 : Option PV} {st : List PV} {M : Mem} {Q : Option PV → Mem → Prop} : WP d 40 42 [some (vr x), l1, l2, l3, l4, l5] (st) M Q = WP d 40 43 [some (vr x), l1, l2, l3, l4, l5] (vr x :: st) M Q := w1 mC_40 d40_42 rfl rfl
theorem d40_43 : decode cX4_lossOf 43 = .ok (.getfield 27, 3) := by decide +kernel
theorem k40_43 {d : Nat} {l0 l1 l2 l3 l4 l5 : Option PV} {st : List PV} {M : Mem} {Q : Option PV → Mem → Prop} {r : Nat} (hk : mK M r = 4) : WP d 40 43 [l0, l1, l2, l3, l4, l5] (vr r :: st) M Q = WP d 40 46 [l0, l1, l2, l3, l4, l5] (vr (mR M r 5) :: st) M Q := w_getr mC_40 d40_43 fE_4_27 rfl (by rw [hk]; rfl)
theorem d40_46 : decode cX4_lossOf 46 = .ok (.iload_n 1, 1) := by decide +kernel
theorem k40_46 {d : Nat} {x : Int32} {l0 l2 l3 l4 l5 : Option PV} {st : List PV} {M : Mem} {Q : Option PV → Mem → Prop} : WP d 40 46 [l0, some (vi x), l2, l3, l4, l5] (st) M Q = WP d 40 47 [l0, some (vi x), l2, l3, l4, l5] (vi x :: st) M Q := w1 mC_40 d40_46 rfl rfl
theorem d40_47 : decode cX4_lossOf 47 = .ok (.iaload, 1) := by decide +kernel
theorem k40_47 {d : Nat} {l0 l1 l2 l3 l4 l5 : Option PV} {st : List PV} {M : Mem} {Q : Option PV → Mem → Prop} {r : Nat} {j : Int32} (hk : mK M r = 13) (hj : inb j (mN M r)) (_h1 : r ≠ 1) : WP d 40 47 [l0, l1, l2, l3, l4, l5] (vi j :: vr r :: st) M Q = WP d 40 48 [l0, l1, l2, l3, l4, l5] (vi (mI M r (ix j)) :: st) M Q := w_iald mC_40 d40_47 hk hj
theorem d40_48 : decode cX4_lossOf 48 = .ok (.aload_n 0, 1) := by decide +kernel
theorem k40_48 {d x : Nat} {l1 l2 l3 l4 l5 : Option PV} {st : List PV} {M : Mem} {Q : Option PV → Mem → Prop} : WP d 40 48 [some (vr x), l1, l2, l3, l4, l5] (st) M Q = WP d 40 49 [some (vr x), l1, l2, l3, l4, l5] (vr x :: st) M Q := w1 mC_40 d40_48 rfl rfl
theorem d40_49 : decode cX4_lossOf 49 = .ok (.getfield 21, 3) := by decide +kernel
theorem k40_49 {d : Nat} {l0 l1 l2 l3 l4 l5 : Option PV} {st : List PV} {M : Mem} {Q : Option PV → Mem → Prop} {r : Nat} (hk : mK M r = 4) : WP d 40 49 [l0, l1, l2, l3, l4, l5] (vr r :: st) M Q = WP d 40 52 [l0, l1, l2, l3, l4, l5] (vr (mR M r 3) :: st) M Q := w_getr mC_40 d40_49 fE_4_21 rfl (by rw [hk]; rfl)
theorem d40_52 : decode cX4_lossOf 52 = .ok (.iload_n 1, 1) := by decide +kernel
theorem k40_52 {d : Nat} {x : Int32} {l0 l2 l3 l4 l5 : Option PV} {st : List PV} {M : Mem} {Q : Option PV → Mem → Prop} : WP d 40 52 [l0, some (vi x), l2, l3, l4, l5] (st) M Q = WP d 40 53 [l0, some (vi x), l2, l3, l4, l5] (vi x :: st) M Q := w1 mC_40 d40_52 rfl rfl
theorem d40_53 : decode cX4_lossOf 53 = .ok (.iaload, 1) := by decide +kernel
theorem k40_53 {d : Nat} {l0 l1 l2 l3 l4 l5 : Option PV} {st : List PV} {M : Mem} {Q : Option PV → Mem → Prop} {r : Nat} {j : Int32} (hk : mK M r = 13) (hj : inb j (mN M r)) (_h1 : r ≠ 1) : WP d 40 53 [l0, l1, l2, l3, l4, l5] (vi j :: vr r :: st) M Q = WP d 40 54 [l0, l1, l2, l3, l4, l5] (vi (mI M r (ix j)) :: st) M Q := w_iald mC_40 d40_53 hk hj
theorem d40_54 : decode cX4_lossOf 54 = .ok (.iload 4, 2) := by decide +kernel
theorem k40_54 {d : Nat} {x : Int32} {l0 l1 l2 l3 l5 : Option PV} {st : List PV} {M : Mem} {Q : Option PV → Mem → Prop} : WP d 40 54 [l0, l1, l2, l3, some (vi x), l5] (st) M Q = WP d 40 56 [l0, l1, l2, l3, some (vi x), l5] (vi x :: st) M Q := w1 mC_40 d40_54 rfl rfl
theorem d40_56 : decode cX4_lossOf 56 = .ok (.aload_n 0, 1) := by decide +kernel
theorem k40_56 {d x : Nat} {l1 l2 l3 l4 l5 : Option PV} {st : List PV} {M : Mem} {Q : Option PV → Mem → Prop} : WP d 40 56 [some (vr x), l1, l2, l3, l4, l5] (st) M Q = WP d 40 57 [some (vr x), l1, l2, l3, l4, l5] (vr x :: st) M Q := w1 mC_40 d40_56 rfl rfl
theorem d40_57 : decode cX4_lossOf 57 = .ok (.getfield 54, 3) := by decide +kernel
theorem k40_57 {d : Nat} {l0 l1 l2 l3 l4 l5 : Option PV} {st : List PV} {M : Mem} {Q : Option PV → Mem → Prop} {r : Nat} (hk : mK M r = 4) : WP d 40 57 [l0, l1, l2, l3, l4, l5] (vr r :: st) M Q = WP d 40 60 [l0, l1, l2, l3, l4, l5] (vi (mI M r 10) :: st) M Q := w_get mC_40 d40_57 fE_4_54 rfl (by rw [hk]; rfl)
theorem d40_60 : decode cX4_lossOf 60 = .ok (.iload_n 3, 1) := by decide +kernel
theorem k40_60 {d : Nat} {x : Int32} {l0 l1 l2 l4 l5 : Option PV} {st : List PV} {M : Mem} {Q : Option PV → Mem → Prop} : WP d 40 60 [l0, l1, l2, some (vi x), l4, l5] (st) M Q = WP d 40 61 [l0, l1, l2, some (vi x), l4, l5] (vi x :: st) M Q := w1 mC_40 d40_60 rfl rfl
theorem d40_61 : decode cX4_lossOf 61 = .ok (.iload_n 1, 1) := by decide +kernel
theorem k40_61 {d : Nat} {x : Int32} {l0 l2 l3 l4 l5 : Option PV} {st : List PV} {M : Mem} {Q : Option PV → Mem → Prop} : WP d 40 61 [l0, some (vi x), l2, l3, l4, l5] (st) M Q = WP d 40 62 [l0, some (vi x), l2, l3, l4, l5] (vi x :: st) M Q := w1 mC_40 d40_61 rfl rfl
theorem d40_62 : decode cX4_lossOf 62 = .ok (.invokevirtual 91, 3) := by decide +kernel
theorem k40_62 {d : Nat} {l0 l1 l2 l3 l4 l5 : Option PV} {st : List PV} {M : Mem} {Q : Option PV → Mem → Prop} {a0 a1 a2 a3 a4 a5 : Int32} {r : Nat} (hl : szL st ≤ 8) (hk : mK M r = 3) : WP (d + 1) 40 62 [l0, l1, l2, l3, l4, l5] (vi a5 :: vi a4 :: vi a3 :: vi a2 :: vi a1 :: vi a0 :: vr r :: st) M Q = WP d 19 0 [some (vr r), some (vi a0), some (vi a1), some (vi a2), some (vi a3), some (vi a4), some (vi a5), none, none, none, none] [] M (fun v M' => WP (d + 1) 40 65 [l0, l1, l2, l3, l4, l5] (psh v st) M' Q) := w_callV mC_40 d40_62 (ci := 3) rfl rfl rfl (Nat.le_of_ble_eq_true rfl) (by decide) rfl hl (Or.inl hk)
theorem d40_65 : decode cX4_lossOf 65 = .ok (.goto 16, 3) := by decide +kernel
theorem k40_65 {d : Nat} {l0 l1 l2 l3 l4 l5 : Option PV} {st : List PV} {M : Mem} {Q : Option PV → Mem → Prop} : WP d 40 65 [l0, l1, l2, l3, l4, l5] (st) M Q = WP d 40 81 [l0, l1, l2, l3, l4, l5] (st) M Q := w_goto mC_40 d40_65 (by decide)
theorem d40_68 : decode cX4_lossOf 68 = .ok (.aload_n 0, 1) := by decide +kernel
theorem k40_68 {d x : Nat} {l1 l2 l3 l4 l5 : Option PV} {st : List PV} {M : Mem} {Q : Option PV → Mem → Prop} : WP d 40 68 [some (vr x), l1, l2, l3, l4, l5] (st) M Q = WP d 40 69 [some (vr x), l1, l2, l3, l4, l5] (vr x :: st) M Q := w1 mC_40 d40_68 rfl rfl
theorem d40_69 : decode cX4_lossOf 69 = .ok (.getfield 21, 3) := by decide +kernel
theorem k40_69 {d : Nat} {l0 l1 l2 l3 l4 l5 : Option PV} {st : List PV} {M : Mem} {Q : Option PV → Mem → Prop} {r : Nat} (hk : mK M r = 4) : WP d 40 69 [l0, l1, l2, l3, l4, l5] (vr r :: st) M Q = WP d 40 72 [l0, l1, l2, l3, l4, l5] (vr (mR M r 3) :: st) M Q := w_getr mC_40 d40_69 fE_4_21 rfl (by rw [hk]; rfl)
theorem d40_72 : decode cX4_lossOf 72 = .ok (.iload_n 1, 1) := by decide +kernel
theorem k40_72 {d : Nat} {x : Int32} {l0 l2 l3 l4 l5 : Option PV} {st : List PV} {M : Mem} {Q : Option PV → Mem → Prop} : WP d 40 72 [l0, some (vi x), l2, l3, l4, l5] (st) M Q = WP d 40 73 [l0, some (vi x), l2, l3, l4, l5] (vi x :: st) M Q := w1 mC_40 d40_72 rfl rfl
theorem d40_73 : decode cX4_lossOf 73 = .ok (.iaload, 1) := by decide +kernel
theorem k40_73 {d : Nat} {l0 l1 l2 l3 l4 l5 : Option PV} {st : List PV} {M : Mem} {Q : Option PV → Mem → Prop} {r : Nat} {j : Int32} (hk : mK M r = 13) (hj : inb j (mN M r)) (_h1 : r ≠ 1) : WP d 40 73 [l0, l1, l2, l3, l4, l5] (vi j :: vr r :: st) M Q = WP d 40 74 [l0, l1, l2, l3, l4, l5] (vi (mI M r (ix j)) :: st) M Q := w_iald mC_40 d40_73 hk hj
theorem d40_74 : decode cX4_lossOf 74 = .ok (.aload_n 0, 1) := by decide +kernel
theorem k40_74 {d x : Nat} {l1 l2 l3 l4 l5 : Option PV} {st : List PV} {M : Mem} {Q : Option PV → Mem → Prop} : WP d 40 74 [some (vr x), l1, l2, l3, l4, l5] (st) M Q = WP d 40 75 [some (vr x), l1, l2, l3, l4, l5] (vr x :: st) M Q := w1 mC_40 d40_74 rfl rfl
theorem d40_75 : decode cX4_lossOf 75 = .ok (.getfield 54, 3) := by decide +kernel
theorem k40_75 {d : Nat} {l0 l1 l2 l3 l4 l5 : Option PV} {st : List PV} {M : Mem} {Q : Option PV → Mem → Prop} {r : Nat} (hk : mK M r = 4) : WP d 40 75 [l0, l1, l2, l3, l4, l5] (vr r :: st) M Q = WP d 40 78 [l0, l1, l2, l3, l4, l5] (vi (mI M r 10) :: st) M Q := w_get mC_40 d40_75 fE_4_54 rfl (by rw [hk]; rfl)
theorem d40_78 : decode cX4_lossOf 78 = .ok (.iconst 4, 1) := by decide +kernel
theorem k40_78 {d : Nat} {l0 l1 l2 l3 l4 l5 : Option PV} {st : List PV} {M : Mem} {Q : Option PV → Mem → Prop} : WP d 40 78 [l0, l1, l2, l3, l4, l5] (st) M Q = WP d 40 79 [l0, l1, l2, l3, l4, l5] (vi 4 :: st) M Q := w_iconst mC_40 d40_78 (by decide)
theorem d40_79 : decode cX4_lossOf 79 = .ok (.idiv, 1) := by decide +kernel
theorem k40_79 {d : Nat} {l0 l1 l2 l3 l4 l5 : Option PV} {st : List PV} {M : Mem} {Q : Option PV → Mem → Prop} {x y : Int32} (h : y ≠ 0) : WP d 40 79 [l0, l1, l2, l3, l4, l5] (vi y :: vi x :: st) M Q = WP d 40 80 [l0, l1, l2, l3, l4, l5] (vi (x / y) :: st) M Q := w_div mC_40 d40_79 h
theorem d40_80 : decode cX4_lossOf 80 = .ok (.iadd, 1) := by decide +kernel
theorem k40_80 {d : Nat} {l0 l1 l2 l3 l4 l5 : Option PV} {st : List PV} {M : Mem} {Q : Option PV → Mem → Prop} {x y : Int32} : WP d 40 80 [l0, l1, l2, l3, l4, l5] (vi y :: vi x :: st) M Q = WP d 40 81 [l0, l1, l2, l3, l4, l5] (vi (x + y) :: st) M Q := w1 mC_40 d40_80 rfl rfl
theorem d40_81 : decode cX4_lossOf 81 = .ok (.istore 5, 2) := by decide +kernel
theorem k40_81 {d : Nat} {l0 l1 l2 l3 l4 l5 : Option PV} {st : List PV} {M : Mem} {Q : Option PV → Mem → Prop} {x : Int32} : WP d 40 81 [l0, l1, l2, l3, l4, l5] (vi x :: st) M Q = WP d 40 83 [l0, l1, l2, l3, l4, some (vi x)] (st) M Q := w1 mC_40 d40_81 rfl rfl
theorem d40_83 : decode cX4_lossOf 83 = .ok (.aload_n 0, 1) := by decide +kernel
theorem k40_83 {d x : Nat} {l1 l2 l3 l4 l5 : Option PV} {st : List PV} {M : Mem} {Q : Option PV → Mem → Prop} : WP d 40 83 [some (vr x), l1, l2, l3, l4, l5] (st) M Q = WP d 40 84 [some (vr x), l1, l2, l3, l4, l5] (vr x :: st) M Q := w1 mC_40 d40_83 rfl rfl
theorem d40_84 : decode cX4_lossOf 84 = .ok (.getfield 27, 3) := by decide +kernel
theorem k40_84 {d : Nat} {l0 l1 l2 l3 l4 l5 : Option PV} {st : List PV} {M : Mem} {Q : Option PV → Mem → Prop} {r : Nat} (hk : mK M r = 4) : WP d 40 84 [l0, l1, l2, l3, l4, l5] (vr r :: st) M Q = WP d 40 87 [l0, l1, l2, l3, l4, l5] (vr (mR M r 5) :: st) M Q := w_getr mC_40 d40_84 fE_4_27 rfl (by rw [hk]; rfl)
theorem d40_87 : decode cX4_lossOf 87 = .ok (.iload_n 1, 1) := by decide +kernel
theorem k40_87 {d : Nat} {x : Int32} {l0 l2 l3 l4 l5 : Option PV} {st : List PV} {M : Mem} {Q : Option PV → Mem → Prop} : WP d 40 87 [l0, some (vi x), l2, l3, l4, l5] (st) M Q = WP d 40 88 [l0, some (vi x), l2, l3, l4, l5] (vi x :: st) M Q := w1 mC_40 d40_87 rfl rfl
theorem d40_88 : decode cX4_lossOf 88 = .ok (.iaload, 1) := by decide +kernel
theorem k40_88 {d : Nat} {l0 l1 l2 l3 l4 l5 : Option PV} {st : List PV} {M : Mem} {Q : Option PV → Mem → Prop} {r : Nat} {j : Int32} (hk : mK M r = 13) (hj : inb j (mN M r)) (_h1 : r ≠ 1) : WP d 40 88 [l0, l1, l2, l3, l4, l5] (vi j :: vr r :: st) M Q = WP d 40 89 [l0, l1, l2, l3, l4, l5] (vi (mI M r (ix j)) :: st) M Q := w_iald mC_40 d40_88 hk hj
theorem d40_89 : decode cX4_lossOf 89 = .ok (.iconst 0, 1) := by decide +kernel
theorem k40_89 {d : Nat} {l0 l1 l2 l3 l4 l5 : Option PV} {st : List PV} {M : Mem} {Q : Option PV → Mem → Prop} : WP d 40 89 [l0, l1, l2, l3, l4, l5] (st) M Q = WP d 40 90 [l0, l1, l2, l3, l4, l5] (vi 0 :: st) M Q := w_iconst mC_40 d40_89 (by decide)
theorem d40_90 : decode cX4_lossOf 90 = .ok (.bipush 20, 2) := by decide +kernel
theorem k40_90 {d : Nat} {l0 l1 l2 l3 l4 l5 : Option PV} {st : List PV} {M : Mem} {Q : Option PV → Mem → Prop} : WP d 40 90 [l0, l1, l2, l3, l4, l5] (st) M Q = WP d 40 92 [l0, l1, l2, l3, l4, l5] (vi 20 :: st) M Q := w_bipush mC_40 d40_90 (by decide)
theorem d40_92 : decode cX4_lossOf 92 = .ok (.iload 5, 2) := by decide +kernel
theorem k40_92 {d : Nat} {x : Int32} {l0 l1 l2 l3 l4 : Option PV} {st : List PV} {M : Mem} {Q : Option PV → Mem → Prop} : WP d 40 92 [l0, l1, l2, l3, l4, some (vi x)] (st) M Q = WP d 40 94 [l0, l1, l2, l3, l4, some (vi x)] (vi x :: st) M Q := w1 mC_40 d40_92 rfl rfl
theorem d40_94 : decode cX4_lossOf 94 = .ok (.invokestatic 95, 3) := by decide +kernel
theorem k40_94 {d : Nat} {l0 l1 l2 l3 l4 l5 : Option PV} {st : List PV} {M : Mem} {Q : Option PV → Mem → Prop} {x y : Int32} (hl : szL st ≤ 8) : WP d 40 94 [l0, l1, l2, l3, l4, l5] (vi y :: vi x :: st) M Q = WP d 40 97 [l0, l1, l2, l3, l4, l5] (vi (if y < x then y else x) :: st) M Q := w_min mC_40 d40_94 rfl rfl rfl hl
theorem d40_97 : decode cX4_lossOf 97 = .ok (.invokestatic 98, 3) := by decide +kernel
theorem k40_97 {d : Nat} {l0 l1 l2 l3 l4 l5 : Option PV} {st : List PV} {M : Mem} {Q : Option PV → Mem → Prop} {x y : Int32} (hl : szL st ≤ 8) : WP d 40 97 [l0, l1, l2, l3, l4, l5] (vi y :: vi x :: st) M Q = WP d 40 100 [l0, l1, l2, l3, l4, l5] (vi (if x < y then y else x) :: st) M Q := w_max mC_40 d40_97 rfl rfl rfl hl
theorem d40_100 : decode cX4_lossOf 100 = .ok (.invokestatic 95, 3) := by decide +kernel
theorem k40_100 {d : Nat} {l0 l1 l2 l3 l4 l5 : Option PV} {st : List PV} {M : Mem} {Q : Option PV → Mem → Prop} {x y : Int32} (hl : szL st ≤ 8) : WP d 40 100 [l0, l1, l2, l3, l4, l5] (vi y :: vi x :: st) M Q = WP d 40 103 [l0, l1, l2, l3, l4, l5] (vi (if y < x then y else x) :: st) M Q := w_min mC_40 d40_100 rfl rfl rfl hl
theorem d40_103 : decode cX4_lossOf 103 = .ok (.ireturn, 1) := by decide +kernel
theorem k40_103 {d : Nat} {l0 l1 l2 l3 l4 l5 : Option PV} {M : Mem} {Q : Option PV → Mem → Prop} {x : Int32} : WP d 40 103 [l0, l1, l2, l3, l4, l5] ([vi x]) M Q = Q (some (vi x)) M := w_iret mC_40 d40_103 rfl
theorem d41_0 : decode cX4_passHourOf 0 = .ok (.aload_n 0, 1) := by decide +kernel
theorem k41_0 {d x : Nat} {l1 l2 l3 l4 l5 : Option PV} {st : List PV} {M : Mem} {Q : Option PV → Mem → Prop} : WP d 41 0 [some (vr x), l1, l2, l3, l4, l5] (st) M Q = WP d 41 1 [some (vr x), l1, l2, l3, l4, l5] (vr x :: st) M Q := w1 mC_41 d41_0 rfl rfl
theorem d41_1 : decode cX4_passHourOf 1 = .ok (.getfield 24, 3) := by decide +kernel
theorem k41_1 {d : Nat} {l0 l1 l2 l3 l4 l5 : Option PV} {st : List PV} {M : Mem} {Q : Option PV → Mem → Prop} {r : Nat} (hk : mK M r = 4) : WP d 41 1 [l0, l1, l2, l3, l4, l5] (vr r :: st) M Q = WP d 41 4 [l0, l1, l2, l3, l4, l5] (vr (mR M r 4) :: st) M Q := w_getr mC_41 d41_1 fE_4_24 rfl (by rw [hk]; rfl)
theorem d41_4 : decode cX4_passHourOf 4 = .ok (.iload_n 1, 1) := by decide +kernel
theorem k41_4 {d : Nat} {x : Int32} {l0 l2 l3 l4 l5 : Option PV} {st : List PV} {M : Mem} {Q : Option PV → Mem → Prop} : WP d 41 4 [l0, some (vi x), l2, l3, l4, l5] (st) M Q = WP d 41 5 [l0, some (vi x), l2, l3, l4, l5] (vi x :: st) M Q := w1 mC_41 d41_4 rfl rfl
theorem d41_5 : decode cX4_passHourOf 5 = .ok (.iaload, 1) := by decide +kernel
theorem k41_5 {d : Nat} {l0 l1 l2 l3 l4 l5 : Option PV} {st : List PV} {M : Mem} {Q : Option PV → Mem → Prop} {r : Nat} {j : Int32} (hk : mK M r = 13) (hj : inb j (mN M r)) (_h1 : r ≠ 1) : WP d 41 5 [l0, l1, l2, l3, l4, l5] (vi j :: vr r :: st) M Q = WP d 41 6 [l0, l1, l2, l3, l4, l5] (vi (mI M r (ix j)) :: st) M Q := w_iald mC_41 d41_5 hk hj
theorem d41_6 : decode cX4_passHourOf 6 = .ok (.istore_n 3, 1) := by decide +kernel
theorem k41_6 {d : Nat} {l0 l1 l2 l3 l4 l5 : Option PV} {st : List PV} {M : Mem} {Q : Option PV → Mem → Prop} {x : Int32} : WP d 41 6 [l0, l1, l2, l3, l4, l5] (vi x :: st) M Q = WP d 41 7 [l0, l1, l2, some (vi x), l4, l5] (st) M Q := w1 mC_41 d41_6 rfl rfl
theorem d41_7 : decode cX4_passHourOf 7 = .ok (.aload_n 0, 1) := by decide +kernel
theorem k41_7 {d x : Nat} {l1 l2 l3 l4 l5 : Option PV} {st : List PV} {M : Mem} {Q : Option PV → Mem → Prop} : WP d 41 7 [some (vr x), l1, l2, l3, l4, l5] (st) M Q = WP d 41 8 [some (vr x), l1, l2, l3, l4, l5] (vr x :: st) M Q := w1 mC_41 d41_7 rfl rfl
theorem d41_8 : decode cX4_passHourOf 8 = .ok (.iload_n 3, 1) := by decide +kernel
theorem k41_8 {d : Nat} {x : Int32} {l0 l1 l2 l4 l5 : Option PV} {st : List PV} {M : Mem} {Q : Option PV → Mem → Prop} : WP d 41 8 [l0, l1, l2, some (vi x), l4, l5] (st) M Q = WP d 41 9 [l0, l1, l2, some (vi x), l4, l5] (vi x :: st) M Q := w1 mC_41 d41_8 rfl rfl
theorem d41_9 : decode cX4_passHourOf 9 = .ok (.invokevirtual 47, 3) := by decide +kernel
theorem k41_9 {d : Nat} {l0 l1 l2 l3 l4 l5 : Option PV} {st : List PV} {M : Mem} {Q : Option PV → Mem → Prop} {a0 : Int32} {r : Nat} (hl : szL st ≤ 8) (hk : mK M r = 4) : WP (d + 1) 41 9 [l0, l1, l2, l3, l4, l5] (vi a0 :: vr r :: st) M Q = WP d 24 0 [some (vr r), some (vi a0)] [] M (fun v M' => WP (d + 1) 41 12 [l0, l1, l2, l3, l4, l5] (psh v st) M' Q) := w_callV mC_41 d41_9 (ci := 4) rfl rfl rfl (Nat.le_of_ble_eq_true rfl) (by decide) rfl hl (Or.inl hk)
theorem d41_12 : decode cX4_passHourOf 12 = .ok (.ifCond .ne 6, 3) := by decide +kernel
theorem k41_12 {d : Nat} {l0 l1 l2 l3 l4 l5 : Option PV} {st : List PV} {M : Mem} {Q : Option PV → Mem → Prop} {x : Int32} : WP d 41 12 [l0, l1, l2, l3, l4, l5] (vi x :: st) M Q = (if x = 0 then WP d 41 15 [l0, l1, l2, l3, l4, l5] (st) M Q else WP d 41 18 [l0, l1, l2, l3, l4, l5] (st) M Q) := w_if_ne mC_41 d41_12 (by decide)
theorem d41_15 : decode cX4_passHourOf 15 = .ok (.bipush (-2), 2) := by decide +kernel
theorem k41_15 {d : Nat} {l0 l1 l2 l3 l4 l5 : Option PV} {st : List PV} {M : Mem} {Q : Option PV → Mem → Prop} : WP d 41 15 [l0, l1, l2, l3, l4, l5] (st) M Q = WP d 41 17 [l0, l1, l2, l3, l4, l5] (vi (-2) :: st) M Q := w_bipush mC_41 d41_15 (by decide)
theorem d41_17 : decode cX4_passHourOf 17 = .ok (.ireturn, 1) := by decide +kernel
theorem k41_17 {d : Nat} {l0 l1 l2 l3 l4 l5 : Option PV} {M : Mem} {Q : Option PV → Mem → Prop} {x : Int32} : WP d 41 17 [l0, l1, l2, l3, l4, l5] ([vi x]) M Q = Q (some (vi x)) M := w_iret mC_41 d41_17 rfl
theorem d41_18 : decode cX4_passHourOf 18 = .ok (.aload_n 0, 1) := by decide +kernel
theorem k41_18 {d x : Nat} {l1 l2 l3 l4 l5 : Option PV} {st : List PV} {M : Mem} {Q : Option PV → Mem → Prop} : WP d 41 18 [some (vr x), l1, l2, l3, l4, l5] (st) M Q = WP d 41 19 [some (vr x), l1, l2, l3, l4, l5] (vr x :: st) M Q := w1 mC_41 d41_18 rfl rfl
theorem d41_19 : decode cX4_passHourOf 19 = .ok (.iload_n 1, 1) := by decide +kernel
theorem k41_19 {d : Nat} {x : Int32} {l0 l2 l3 l4 l5 : Option PV} {st : List PV} {M : Mem} {Q : Option PV → Mem → Prop} : WP d 41 19 [l0, some (vi x), l2, l3, l4, l5] (st) M Q = WP d 41 20 [l0, some (vi x), l2, l3, l4, l5] (vi x :: st) M Q := w1 mC_41 d41_19 rfl rfl
theorem d41_20 : decode cX4_passHourOf 20 = .ok (.aload_n 2, 1) := by decide +kernel
theorem k41_20 {d x : Nat} {l0 l1 l3 l4 l5 : Option PV} {st : List PV} {M : Mem} {Q : Option PV → Mem → Prop} : WP d 41 20 [l0, l1, some (vr x), l3, l4, l5] (st) M Q = WP d 41 21 [l0, l1, some (vr x), l3, l4, l5] (vr x :: st) M Q := w1 mC_41 d41_20 rfl rfl
theorem d41_21 : decode cX4_passHourOf 21 = .ok (.invokevirtual 101, 3) := by decide +kernel
theorem k41_21 {d : Nat} {l0 l1 l2 l3 l4 l5 : Option PV} {st : List PV} {M : Mem} {Q : Option PV → Mem → Prop} {a0 : Int32} {a1 : Nat} {r : Nat} (hl : szL st ≤ 8) (hk : mK M r = 4) : WP (d + 1) 41 21 [l0, l1, l2, l3, l4, l5] (vr a1 :: vi a0 :: vr r :: st) M Q = WP d 40 0 [some (vr r), some (vi a0), some (vr a1), none, none, none] [] M (fun v M' => WP (d + 1) 41 24 [l0, l1, l2, l3, l4, l5] (psh v st) M' Q) := w_callV mC_41 d41_21 (ci := 4) rfl rfl rfl (Nat.le_of_ble_eq_true rfl) (by decide) rfl hl (Or.inl hk)
theorem d41_24 : decode cX4_passHourOf 24 = .ok (.istore 4, 2) := by decide +kernel
theorem k41_24 {d : Nat} {l0 l1 l2 l3 l4 l5 : Option PV} {st : List PV} {M : Mem} {Q : Option PV → Mem → Prop} {x : Int32} : WP d 41 24 [l0, l1, l2, l3, l4, l5] (vi x :: st) M Q = WP d 41 26 [l0, l1, l2, l3, some (vi x), l5] (st) M Q := w1 mC_41 d41_24 rfl rfl
theorem d41_26 : decode cX4_passHourOf 26 = .ok (.aload_n 0, 1) := by decide +kernel
theorem k41_26 {d x : Nat} {l1 l2 l3 l4 l5 : Option PV} {st : List PV} {M : Mem} {Q : Option PV → Mem → Prop} : WP d 41 26 [some (vr x), l1, l2, l3, l4, l5] (st) M Q = WP d 41 27 [some (vr x), l1, l2, l3, l4, l5] (vr x :: st) M Q := w1 mC_41 d41_26 rfl rfl
theorem d41_27 : decode cX4_passHourOf 27 = .ok (.getfield 27, 3) := by decide +kernel
theorem k41_27 {d : Nat} {l0 l1 l2 l3 l4 l5 : Option PV} {st : List PV} {M : Mem} {Q : Option PV → Mem → Prop} {r : Nat} (hk : mK M r = 4) : WP d 41 27 [l0, l1, l2, l3, l4, l5] (vr r :: st) M Q = WP d 41 30 [l0, l1, l2, l3, l4, l5] (vr (mR M r 5) :: st) M Q := w_getr mC_41 d41_27 fE_4_27 rfl (by rw [hk]; rfl)
theorem d41_30 : decode cX4_passHourOf 30 = .ok (.iload_n 1, 1) := by decide +kernel
theorem k41_30 {d : Nat} {x : Int32} {l0 l2 l3 l4 l5 : Option PV} {st : List PV} {M : Mem} {Q : Option PV → Mem → Prop} : WP d 41 30 [l0, some (vi x), l2, l3, l4, l5] (st) M Q = WP d 41 31 [l0, some (vi x), l2, l3, l4, l5] (vi x :: st) M Q := w1 mC_41 d41_30 rfl rfl
theorem d41_31 : decode cX4_passHourOf 31 = .ok (.dup2, 1) := by decide +kernel
theorem k41_31 {d : Nat} {l0 l1 l2 l3 l4 l5 : Option PV} {st : List PV} {M : Mem} {Q : Option PV → Mem → Prop} {a : Int32} {b : Nat} : WP d 41 31 [l0, l1, l2, l3, l4, l5] (vi a :: vr b :: st) M Q = WP d 41 32 [l0, l1, l2, l3, l4, l5] (vi a :: vr b :: vi a :: vr b :: st) M Q := w1 mC_41 d41_31 rfl rfl
theorem d41_32 : decode cX4_passHourOf 32 = .ok (.iaload, 1) := by decide +kernel
theorem k41_32 {d : Nat} {l0 l1 l2 l3 l4 l5 : Option PV} {st : List PV} {M : Mem} {Q : Option PV → Mem → Prop} {r : Nat} {j : Int32} (hk : mK M r = 13) (hj : inb j (mN M r)) (_h1 : r ≠ 1) : WP d 41 32 [l0, l1, l2, l3, l4, l5] (vi j :: vr r :: st) M Q = WP d 41 33 [l0, l1, l2, l3, l4, l5] (vi (mI M r (ix j)) :: st) M Q := w_iald mC_41 d41_32 hk hj
theorem d41_33 : decode cX4_passHourOf 33 = .ok (.iload 4, 2) := by decide +kernel
theorem k41_33 {d : Nat} {x : Int32} {l0 l1 l2 l3 l5 : Option PV} {st : List PV} {M : Mem} {Q : Option PV → Mem → Prop} : WP d 41 33 [l0, l1, l2, l3, some (vi x), l5] (st) M Q = WP d 41 35 [l0, l1, l2, l3, some (vi x), l5] (vi x :: st) M Q := w1 mC_41 d41_33 rfl rfl
theorem d41_35 : decode cX4_passHourOf 35 = .ok (.isub, 1) := by decide +kernel
theorem k41_35 {d : Nat} {l0 l1 l2 l3 l4 l5 : Option PV} {st : List PV} {M : Mem} {Q : Option PV → Mem → Prop} {x y : Int32} : WP d 41 35 [l0, l1, l2, l3, l4, l5] (vi y :: vi x :: st) M Q = WP d 41 36 [l0, l1, l2, l3, l4, l5] (vi (x - y) :: st) M Q := w1 mC_41 d41_35 rfl rfl
theorem d41_36 : decode cX4_passHourOf 36 = .ok (.iastore, 1) := by decide +kernel
theorem k41_36 {d : Nat} {l0 l1 l2 l3 l4 l5 : Option PV} {st : List PV} {M : Mem} {Q : Option PV → Mem → Prop} {r : Nat} {j x : Int32} (hk : mK M r = 13) (hj : inb j (mN M r)) (h1 : r ≠ 1) : WP d 41 36 [l0, l1, l2, l3, l4, l5] (vi x :: vi j :: vr r :: st) M Q = WP d 41 37 [l0, l1, l2, l3, l4, l5] (st) (sI M r (ix j) x) Q := w_iast mC_41 d41_36 hk hj h1
theorem d41_37 : decode cX4_passHourOf 37 = .ok (.aload_n 0, 1) := by decide +kernel
theorem k41_37 {d x : Nat} {l1 l2 l3 l4 l5 : Option PV} {st : List PV} {M : Mem} {Q : Option PV → Mem → Prop} : WP d 41 37 [some (vr x), l1, l2, l3, l4, l5] (st) M Q = WP d 41 38 [some (vr x), l1, l2, l3, l4, l5] (vr x :: st) M Q := w1 mC_41 d41_37 rfl rfl
theorem d41_38 : decode cX4_passHourOf 38 = .ok (.getfield 30, 3) := by decide +kernel
theorem k41_38 {d : Nat} {l0 l1 l2 l3 l4 l5 : Option PV} {st : List PV} {M : Mem} {Q : Option PV → Mem → Prop} {r : Nat} (hk : mK M r = 4) : WP d 41 38 [l0, l1, l2, l3, l4, l5] (vr r :: st) M Q = WP d 41 41 [l0, l1, l2, l3, l4, l5] (vr (mR M r 6) :: st) M Q := w_getr mC_41 d41_38 fE_4_30 rfl (by rw [hk]; rfl)
theorem d41_41 : decode cX4_passHourOf 41 = .ok (.iconst 2, 1) := by decide +kernel
theorem k41_41 {d : Nat} {l0 l1 l2 l3 l4 l5 : Option PV} {st : List PV} {M : Mem} {Q : Option PV → Mem → Prop} : WP d 41 41 [l0, l1, l2, l3, l4, l5] (st) M Q = WP d 41 42 [l0, l1, l2, l3, l4, l5] (vi 2 :: st) M Q := w_iconst mC_41 d41_41 (by decide)
theorem d41_42 : decode cX4_passHourOf 42 = .ok (.dup2, 1) := by decide +kernel
theorem k41_42 {d : Nat} {l0 l1 l2 l3 l4 l5 : Option PV} {st : List PV} {M : Mem} {Q : Option PV → Mem → Prop} {a : Int32} {b : Nat} : WP d 41 42 [l0, l1, l2, l3, l4, l5] (vi a :: vr b :: st) M Q = WP d 41 43 [l0, l1, l2, l3, l4, l5] (vi a :: vr b :: vi a :: vr b :: st) M Q := w1 mC_41 d41_42 rfl rfl
theorem d41_43 : decode cX4_passHourOf 43 = .ok (.iaload, 1) := by decide +kernel
theorem k41_43 {d : Nat} {l0 l1 l2 l3 l4 l5 : Option PV} {st : List PV} {M : Mem} {Q : Option PV → Mem → Prop} {r : Nat} {j : Int32} (hk : mK M r = 13) (hj : inb j (mN M r)) (_h1 : r ≠ 1) : WP d 41 43 [l0, l1, l2, l3, l4, l5] (vi j :: vr r :: st) M Q = WP d 41 44 [l0, l1, l2, l3, l4, l5] (vi (mI M r (ix j)) :: st) M Q := w_iald mC_41 d41_43 hk hj
theorem d41_44 : decode cX4_passHourOf 44 = .ok (.iload 4, 2) := by decide +kernel
theorem k41_44 {d : Nat} {x : Int32} {l0 l1 l2 l3 l5 : Option PV} {st : List PV} {M : Mem} {Q : Option PV → Mem → Prop} : WP d 41 44 [l0, l1, l2, l3, some (vi x), l5] (st) M Q = WP d 41 46 [l0, l1, l2, l3, some (vi x), l5] (vi x :: st) M Q := w1 mC_41 d41_44 rfl rfl
theorem d41_46 : decode cX4_passHourOf 46 = .ok (.iadd, 1) := by decide +kernel
theorem k41_46 {d : Nat} {l0 l1 l2 l3 l4 l5 : Option PV} {st : List PV} {M : Mem} {Q : Option PV → Mem → Prop} {x y : Int32} : WP d 41 46 [l0, l1, l2, l3, l4, l5] (vi y :: vi x :: st) M Q = WP d 41 47 [l0, l1, l2, l3, l4, l5] (vi (x + y) :: st) M Q := w1 mC_41 d41_46 rfl rfl
theorem d41_47 : decode cX4_passHourOf 47 = .ok (.iastore, 1) := by decide +kernel
theorem k41_47 {d : Nat} {l0 l1 l2 l3 l4 l5 : Option PV} {st : List PV} {M : Mem} {Q : Option PV → Mem → Prop} {r : Nat} {j x : Int32} (hk : mK M r = 13) (hj : inb j (mN M r)) (h1 : r ≠ 1) : WP d 41 47 [l0, l1, l2, l3, l4, l5] (vi x :: vi j :: vr r :: st) M Q = WP d 41 48 [l0, l1, l2, l3, l4, l5] (st) (sI M r (ix j) x) Q := w_iast mC_41 d41_47 hk hj h1
theorem d41_48 : decode cX4_passHourOf 48 = .ok (.aload_n 0, 1) := by decide +kernel
theorem k41_48 {d x : Nat} {l1 l2 l3 l4 l5 : Option PV} {st : List PV} {M : Mem} {Q : Option PV → Mem → Prop} : WP d 41 48 [some (vr x), l1, l2, l3, l4, l5] (st) M Q = WP d 41 49 [some (vr x), l1, l2, l3, l4, l5] (vr x :: st) M Q := w1 mC_41 d41_48 rfl rfl
theorem d41_49 : decode cX4_passHourOf 49 = .ok (.getfield 54, 3) := by decide +kernel
theorem k41_49 {d : Nat} {l0 l1 l2 l3 l4 l5 : Option PV} {st : List PV} {M : Mem} {Q : Option PV → Mem → Prop} {r : Nat} (hk : mK M r = 4) : WP d 41 49 [l0, l1, l2, l3, l4, l5] (vr r :: st) M Q = WP d 41 52 [l0, l1, l2, l3, l4, l5] (vi (mI M r 10) :: st) M Q := w_get mC_41 d41_49 fE_4_54 rfl (by rw [hk]; rfl)
theorem d41_52 : decode cX4_passHourOf 52 = .ok (.aload_n 0, 1) := by decide +kernel
theorem k41_52 {d x : Nat} {l1 l2 l3 l4 l5 : Option PV} {st : List PV} {M : Mem} {Q : Option PV → Mem → Prop} : WP d 41 52 [some (vr x), l1, l2, l3, l4, l5] (st) M Q = WP d 41 53 [some (vr x), l1, l2, l3, l4, l5] (vr x :: st) M Q := w1 mC_41 d41_52 rfl rfl
theorem d41_53 : decode cX4_passHourOf 53 = .ok (.getfield 33, 3) := by decide +kernel
theorem k41_53 {d : Nat} {l0 l1 l2 l3 l4 l5 : Option PV} {st : List PV} {M : Mem} {Q : Option PV → Mem → Prop} {r : Nat} (hk : mK M r = 4) : WP d 41 53 [l0, l1, l2, l3, l4, l5] (vr r :: st) M Q = WP d 41 56 [l0, l1, l2, l3, l4, l5] (vi (mI M r 9) :: st) M Q := w_get mC_41 d41_53 fE_4_33 rfl (by rw [hk]; rfl)
theorem d41_56 : decode cX4_passHourOf 56 = .ok (.if_icmp .ge 6, 3) := by decide +kernel
theorem k41_56 {d : Nat} {l0 l1 l2 l3 l4 l5 : Option PV} {st : List PV} {M : Mem} {Q : Option PV → Mem → Prop} {x y : Int32} : WP d 41 56 [l0, l1, l2, l3, l4, l5] (vi y :: vi x :: st) M Q = (if y ≤ x then WP d 41 62 [l0, l1, l2, l3, l4, l5] (st) M Q else WP d 41 59 [l0, l1, l2, l3, l4, l5] (st) M Q) := w_ic_ge mC_41 d41_56 (by decide)
theorem d41_59 : decode cX4_passHourOf 59 = .ok (.bipush (-2), 2) := by decide +kernel
theorem k41_59 {d : Nat} {l0 l1 l2 l3 l4 l5 : Option PV} {st : List PV} {M : Mem} {Q : Option PV → Mem → Prop} : WP d 41 59 [l0, l1, l2, l3, l4, l5] (st) M Q = WP d 41 61 [l0, l1, l2, l3, l4, l5] (vi (-2) :: st) M Q := w_bipush mC_41 d41_59 (by decide)
theorem d41_61 : decode cX4_passHourOf 61 = .ok (.ireturn, 1) := by decide +kernel
theorem k41_61 {d : Nat} {l0 l1 l2 l3 l4 l5 : Option PV} {M : Mem} {Q : Option PV → Mem → Prop} {x : Int32} : WP d 41 61 [l0, l1, l2, l3, l4, l5] ([vi x]) M Q = Q (some (vi x)) M := w_iret mC_41 d41_61 rfl
theorem d41_62 : decode cX4_passHourOf 62 = .ok (.aload_n 0, 1) := by decide +kernel
theorem k41_62 {d x : Nat} {l1 l2 l3 l4 l5 : Option PV} {st : List PV} {M : Mem} {Q : Option PV → Mem → Prop} : WP d 41 62 [some (vr x), l1, l2, l3, l4, l5] (st) M Q = WP d 41 63 [some (vr x), l1, l2, l3, l4, l5] (vr x :: st) M Q := w1 mC_41 d41_62 rfl rfl
theorem d41_63 : decode cX4_passHourOf 63 = .ok (.getfield 18, 3) := by decide +kernel
theorem k41_63 {d : Nat} {l0 l1 l2 l3 l4 l5 : Option PV} {st : List PV} {M : Mem} {Q : Option PV → Mem → Prop} {r : Nat} (hk : mK M r = 4) : WP d 41 63 [l0, l1, l2, l3, l4, l5] (vr r :: st) M Q = WP d 41 66 [l0, l1, l2, l3, l4, l5] (vr (mR M r 2) :: st) M Q := w_getr mC_41 d41_63 fE_4_18 rfl (by rw [hk]; rfl)
theorem d41_66 : decode cX4_passHourOf 66 = .ok (.iload_n 1, 1) := by decide +kernel
theorem k41_66 {d : Nat} {x : Int32} {l0 l2 l3 l4 l5 : Option PV} {st : List PV} {M : Mem} {Q : Option PV → Mem → Prop} : WP d 41 66 [l0, some (vi x), l2, l3, l4, l5] (st) M Q = WP d 41 67 [l0, some (vi x), l2, l3, l4, l5] (vi x :: st) M Q := w1 mC_41 d41_66 rfl rfl
theorem d41_67 : decode cX4_passHourOf 67 = .ok (.aload_n 0, 1) := by decide +kernel
theorem k41_67 {d x : Nat} {l1 l2 l3 l4 l5 : Option PV} {st : List PV} {M : Mem} {Q : Option PV → Mem → Prop} : WP d 41 67 [some (vr x), l1, l2, l3, l4, l5] (st) M Q = WP d 41 68 [some (vr x), l1, l2, l3, l4, l5] (vr x :: st) M Q := w1 mC_41 d41_67 rfl rfl
theorem d41_68 : decode cX4_passHourOf 68 = .ok (.getfield 18, 3) := by decide +kernel
theorem k41_68 {d : Nat} {l0 l1 l2 l3 l4 l5 : Option PV} {st : List PV} {M : Mem} {Q : Option PV → Mem → Prop} {r : Nat} (hk : mK M r = 4) : WP d 41 68 [l0, l1, l2, l3, l4, l5] (vr r :: st) M Q = WP d 41 71 [l0, l1, l2, l3, l4, l5] (vr (mR M r 2) :: st) M Q := w_getr mC_41 d41_68 fE_4_18 rfl (by rw [hk]; rfl)
theorem d41_71 : decode cX4_passHourOf 71 = .ok (.iload_n 1, 1) := by decide +kernel
theorem k41_71 {d : Nat} {x : Int32} {l0 l2 l3 l4 l5 : Option PV} {st : List PV} {M : Mem} {Q : Option PV → Mem → Prop} : WP d 41 71 [l0, some (vi x), l2, l3, l4, l5] (st) M Q = WP d 41 72 [l0, some (vi x), l2, l3, l4, l5] (vi x :: st) M Q := w1 mC_41 d41_71 rfl rfl
theorem d41_72 : decode cX4_passHourOf 72 = .ok (.iaload, 1) := by decide +kernel
theorem k41_72 {d : Nat} {l0 l1 l2 l3 l4 l5 : Option PV} {st : List PV} {M : Mem} {Q : Option PV → Mem → Prop} {r : Nat} {j : Int32} (hk : mK M r = 13) (hj : inb j (mN M r)) (_h1 : r ≠ 1) : WP d 41 72 [l0, l1, l2, l3, l4, l5] (vi j :: vr r :: st) M Q = WP d 41 73 [l0, l1, l2, l3, l4, l5] (vi (mI M r (ix j)) :: st) M Q := w_iald mC_41 d41_72 hk hj
theorem d41_73 : decode cX4_passHourOf 73 = .ok (.aload_n 0, 1) := by decide +kernel
theorem k41_73 {d x : Nat} {l1 l2 l3 l4 l5 : Option PV} {st : List PV} {M : Mem} {Q : Option PV → Mem → Prop} : WP d 41 73 [some (vr x), l1, l2, l3, l4, l5] (st) M Q = WP d 41 74 [some (vr x), l1, l2, l3, l4, l5] (vr x :: st) M Q := w1 mC_41 d41_73 rfl rfl
theorem d41_74 : decode cX4_passHourOf 74 = .ok (.getfield 9, 3) := by decide +kernel
theorem k41_74 {d : Nat} {l0 l1 l2 l3 l4 l5 : Option PV} {st : List PV} {M : Mem} {Q : Option PV → Mem → Prop} {r : Nat} (hk : mK M r = 4) : WP d 41 74 [l0, l1, l2, l3, l4, l5] (vr r :: st) M Q = WP d 41 77 [l0, l1, l2, l3, l4, l5] (vr (mR M r 0) :: st) M Q := w_getr mC_41 d41_74 fE_4_9 rfl (by rw [hk]; rfl)
theorem d41_77 : decode cX4_passHourOf 77 = .ok (.iload_n 3, 1) := by decide +kernel
theorem k41_77 {d : Nat} {x : Int32} {l0 l1 l2 l4 l5 : Option PV} {st : List PV} {M : Mem} {Q : Option PV → Mem → Prop} : WP d 41 77 [l0, l1, l2, some (vi x), l4, l5] (st) M Q = WP d 41 78 [l0, l1, l2, some (vi x), l4, l5] (vi x :: st) M Q := w1 mC_41 d41_77 rfl rfl
theorem d41_78 : decode cX4_passHourOf 78 = .ok (.iaload, 1) := by decide +kernel
theorem k41_78 {d : Nat} {l0 l1 l2 l3 l4 l5 : Option PV} {st : List PV} {M : Mem} {Q : Option PV → Mem → Prop} {r : Nat} {j : Int32} (hk : mK M r = 13) (hj : inb j (mN M r)) (_h1 : r ≠ 1) : WP d 41 78 [l0, l1, l2, l3, l4, l5] (vi j :: vr r :: st) M Q = WP d 41 79 [l0, l1, l2, l3, l4, l5] (vi (mI M r (ix j)) :: st) M Q := w_iald mC_41 d41_78 hk hj
theorem d41_79 : decode cX4_passHourOf 79 = .ok (.invokestatic 105, 3) := by decide +kernel
theorem k41_79 {d : Nat} {l0 l1 l2 l3 l4 l5 : Option PV} {st : List PV} {M : Mem} {Q : Option PV → Mem → Prop} {a0 a1 : Int32} (hl : szL st ≤ 8) : WP (d + 1) 41 79 [l0, l1, l2, l3, l4, l5] (vi a1 :: vi a0 :: st) M Q = WP d 42 0 [some (vi a0), some (vi a1), none] [] M (fun v M' => WP (d + 1) 41 82 [l0, l1, l2, l3, l4, l5] (psh v st) M' Q) := w_callS mC_41 d41_79 rfl rfl (Nat.le_of_ble_eq_true rfl) (by decide) rfl hl
theorem d41_82 : decode cX4_passHourOf 82 = .ok (.iastore, 1) := by decide +kernel
theorem k41_82 {d : Nat} {l0 l1 l2 l3 l4 l5 : Option PV} {st : List PV} {M : Mem} {Q : Option PV → Mem → Prop} {r : Nat} {j x : Int32} (hk : mK M r = 13) (hj : inb j (mN M r)) (h1 : r ≠ 1) : WP d 41 82 [l0, l1, l2, l3, l4, l5] (vi x :: vi j :: vr r :: st) M Q = WP d 41 83 [l0, l1, l2, l3, l4, l5] (st) (sI M r (ix j) x) Q := w_iast mC_41 d41_82 hk hj h1
theorem d41_83 : decode cX4_passHourOf 83 = .ok (.aload_n 0, 1) := by decide +kernel
theorem k41_83 {d x : Nat} {l1 l2 l3 l4 l5 : Option PV} {st : List PV} {M : Mem} {Q : Option PV → Mem → Prop} : WP d 41 83 [some (vr x), l1, l2, l3, l4, l5] (st) M Q = WP d 41 84 [some (vr x), l1, l2, l3, l4, l5] (vr x :: st) M Q := w1 mC_41 d41_83 rfl rfl
theorem d41_84 : decode cX4_passHourOf 84 = .ok (.getfield 18, 3) := by decide +kernel
theorem k41_84 {d : Nat} {l0 l1 l2 l3 l4 l5 : Option PV} {st : List PV} {M : Mem} {Q : Option PV → Mem → Prop} {r : Nat} (hk : mK M r = 4) : WP d 41 84 [l0, l1, l2, l3, l4, l5] (vr r :: st) M Q = WP d 41 87 [l0, l1, l2, l3, l4, l5] (vr (mR M r 2) :: st) M Q := w_getr mC_41 d41_84 fE_4_18 rfl (by rw [hk]; rfl)
theorem d41_87 : decode cX4_passHourOf 87 = .ok (.iload_n 1, 1) := by decide +kernel
theorem k41_87 {d : Nat} {x : Int32} {l0 l2 l3 l4 l5 : Option PV} {st : List PV} {M : Mem} {Q : Option PV → Mem → Prop} : WP d 41 87 [l0, some (vi x), l2, l3, l4, l5] (st) M Q = WP d 41 88 [l0, some (vi x), l2, l3, l4, l5] (vi x :: st) M Q := w1 mC_41 d41_87 rfl rfl
theorem d41_88 : decode cX4_passHourOf 88 = .ok (.iaload, 1) := by decide +kernel
theorem k41_88 {d : Nat} {l0 l1 l2 l3 l4 l5 : Option PV} {st : List PV} {M : Mem} {Q : Option PV → Mem → Prop} {r : Nat} {j : Int32} (hk : mK M r = 13) (hj : inb j (mN M r)) (_h1 : r ≠ 1) : WP d 41 88 [l0, l1, l2, l3, l4, l5] (vi j :: vr r :: st) M Q = WP d 41 89 [l0, l1, l2, l3, l4, l5] (vi (mI M r (ix j)) :: st) M Q := w_iald mC_41 d41_88 hk hj
theorem d41_89 : decode cX4_passHourOf 89 = .ok (.aload_n 0, 1) := by decide +kernel
theorem k41_89 {d x : Nat} {l1 l2 l3 l4 l5 : Option PV} {st : List PV} {M : Mem} {Q : Option PV → Mem → Prop} : WP d 41 89 [some (vr x), l1, l2, l3, l4, l5] (st) M Q = WP d 41 90 [some (vr x), l1, l2, l3, l4, l5] (vr x :: st) M Q := w1 mC_41 d41_89 rfl rfl
theorem d41_90 : decode cX4_passHourOf 90 = .ok (.getfield 9, 3) := by decide +kernel
theorem k41_90 {d : Nat} {l0 l1 l2 l3 l4 l5 : Option PV} {st : List PV} {M : Mem} {Q : Option PV → Mem → Prop} {r : Nat} (hk : mK M r = 4) : WP d 41 90 [l0, l1, l2, l3, l4, l5] (vr r :: st) M Q = WP d 41 93 [l0, l1, l2, l3, l4, l5] (vr (mR M r 0) :: st) M Q := w_getr mC_41 d41_90 fE_4_9 rfl (by rw [hk]; rfl)
theorem d41_93 : decode cX4_passHourOf 93 = .ok (.iload_n 3, 1) := by decide +kernel
theorem k41_93 {d : Nat} {x : Int32} {l0 l1 l2 l4 l5 : Option PV} {st : List PV} {M : Mem} {Q : Option PV → Mem → Prop} : WP d 41 93 [l0, l1, l2, some (vi x), l4, l5] (st) M Q = WP d 41 94 [l0, l1, l2, some (vi x), l4, l5] (vi x :: st) M Q := w1 mC_41 d41_93 rfl rfl
theorem d41_94 : decode cX4_passHourOf 94 = .ok (.iaload, 1) := by decide +kernel
theorem k41_94 {d : Nat} {l0 l1 l2 l3 l4 l5 : Option PV} {st : List PV} {M : Mem} {Q : Option PV → Mem → Prop} {r : Nat} {j : Int32} (hk : mK M r = 13) (hj : inb j (mN M r)) (_h1 : r ≠ 1) : WP d 41 94 [l0, l1, l2, l3, l4, l5] (vi j :: vr r :: st) M Q = WP d 41 95 [l0, l1, l2, l3, l4, l5] (vi (mI M r (ix j)) :: st) M Q := w_iald mC_41 d41_94 hk hj
theorem d41_95 : decode cX4_passHourOf 95 = .ok (.if_icmp .eq 6, 3) := by decide +kernel
theorem k41_95 {d : Nat} {l0 l1 l2 l3 l4 l5 : Option PV} {st : List PV} {M : Mem} {Q : Option PV → Mem → Prop} {x y : Int32} : WP d 41 95 [l0, l1, l2, l3, l4, l5] (vi y :: vi x :: st) M Q = (if x = y then WP d 41 101 [l0, l1, l2, l3, l4, l5] (st) M Q else WP d 41 98 [l0, l1, l2, l3, l4, l5] (st) M Q) := w_ic_eq mC_41 d41_95 (by decide)
theorem d41_98 : decode cX4_passHourOf 98 = .ok (.bipush (-2), 2) := by decide +kernel
theorem k41_98 {d : Nat} {l0 l1 l2 l3 l4 l5 : Option PV} {st : List PV} {M : Mem} {Q : Option PV → Mem → Prop} : WP d 41 98 [l0, l1, l2, l3, l4, l5] (st) M Q = WP d 41 100 [l0, l1, l2, l3, l4, l5] (vi (-2) :: st) M Q := w_bipush mC_41 d41_98 (by decide)
theorem d41_100 : decode cX4_passHourOf 100 = .ok (.ireturn, 1) := by decide +kernel
theorem k41_100 {d : Nat} {l0 l1 l2 l3 l4 l5 : Option PV} {M : Mem} {Q : Option PV → Mem → Prop} {x : Int32} : WP d 41 100 [l0, l1, l2, l3, l4, l5] ([vi x]) M Q = Q (some (vi x)) M := w_iret mC_41 d41_100 rfl
theorem d41_101 : decode cX4_passHourOf 101 = .ok (.aload_n 0, 1) := by decide +kernel
theorem k41_101 {d x : Nat} {l1 l2 l3 l4 l5 : Option PV} {st : List PV} {M : Mem} {Q : Option PV → Mem → Prop} : WP d 41 101 [some (vr x), l1, l2, l3, l4, l5] (st) M Q = WP d 41 102 [some (vr x), l1, l2, l3, l4, l5] (vr x :: st) M Q := w1 mC_41 d41_101 rfl rfl
theorem d41_102 : decode cX4_passHourOf 102 = .ok (.getfield 27, 3) := by decide +kernel
theorem k41_102 {d : Nat} {l0 l1 l2 l3 l4 l5 : Option PV} {st : List PV} {M : Mem} {Q : Option PV → Mem → Prop} {r : Nat} (hk : mK M r = 4) : WP d 41 102 [l0, l1, l2, l3, l4, l5] (vr r :: st) M Q = WP d 41 105 [l0, l1, l2, l3, l4, l5] (vr (mR M r 5) :: st) M Q := w_getr mC_41 d41_102 fE_4_27 rfl (by rw [hk]; rfl)
theorem d41_105 : decode cX4_passHourOf 105 = .ok (.iload_n 1, 1) := by decide +kernel
theorem k41_105 {d : Nat} {x : Int32} {l0 l2 l3 l4 l5 : Option PV} {st : List PV} {M : Mem} {Q : Option PV → Mem → Prop} : WP d 41 105 [l0, some (vi x), l2, l3, l4, l5] (st) M Q = WP d 41 106 [l0, some (vi x), l2, l3, l4, l5] (vi x :: st) M Q := w1 mC_41 d41_105 rfl rfl
theorem d41_106 : decode cX4_passHourOf 106 = .ok (.iaload, 1) := by decide +kernel
theorem k41_106 {d : Nat} {l0 l1 l2 l3 l4 l5 : Option PV} {st : List PV} {M : Mem} {Q : Option PV → Mem → Prop} {r : Nat} {j : Int32} (hk : mK M r = 13) (hj : inb j (mN M r)) (_h1 : r ≠ 1) : WP d 41 106 [l0, l1, l2, l3, l4, l5] (vi j :: vr r :: st) M Q = WP d 41 107 [l0, l1, l2, l3, l4, l5] (vi (mI M r (ix j)) :: st) M Q := w_iald mC_41 d41_106 hk hj
theorem d41_107 : decode cX4_passHourOf 107 = .ok (.istore 5, 2) := by decide +kernel
theorem k41_107 {d : Nat} {l0 l1 l2 l3 l4 l5 : Option PV} {st : List PV} {M : Mem} {Q : Option PV → Mem → Prop} {x : Int32} : WP d 41 107 [l0, l1, l2, l3, l4, l5] (vi x :: st) M Q = WP d 41 109 [l0, l1, l2, l3, l4, some (vi x)] (st) M Q := w1 mC_41 d41_107 rfl rfl
theorem d41_109 : decode cX4_passHourOf 109 = .ok (.aload_n 0, 1) := by decide +kernel
theorem k41_109 {d x : Nat} {l1 l2 l3 l4 l5 : Option PV} {st : List PV} {M : Mem} {Q : Option PV → Mem → Prop} : WP d 41 109 [some (vr x), l1, l2, l3, l4, l5] (st) M Q = WP d 41 110 [some (vr x), l1, l2, l3, l4, l5] (vr x :: st) M Q := w1 mC_41 d41_109 rfl rfl
theorem d41_110 : decode cX4_passHourOf 110 = .ok (.getfield 15, 3) := by decide +kernel
theorem k41_110 {d : Nat} {l0 l1 l2 l3 l4 l5 : Option PV} {st : List PV} {M : Mem} {Q : Option PV → Mem → Prop} {r : Nat} (hk : mK M r = 4) : WP d 41 110 [l0, l1, l2, l3, l4, l5] (vr r :: st) M Q = WP d 41 113 [l0, l1, l2, l3, l4, l5] (vr (mR M r 1) :: st) M Q := w_getr mC_41 d41_110 fE_4_15 rfl (by rw [hk]; rfl)
theorem d41_113 : decode cX4_passHourOf 113 = .ok (.iload_n 3, 1) := by decide +kernel
theorem k41_113 {d : Nat} {x : Int32} {l0 l1 l2 l4 l5 : Option PV} {st : List PV} {M : Mem} {Q : Option PV → Mem → Prop} : WP d 41 113 [l0, l1, l2, some (vi x), l4, l5] (st) M Q = WP d 41 114 [l0, l1, l2, some (vi x), l4, l5] (vi x :: st) M Q := w1 mC_41 d41_113 rfl rfl
theorem d41_114 : decode cX4_passHourOf 114 = .ok (.bipush 99, 2) := by decide +kernel
theorem k41_114 {d : Nat} {l0 l1 l2 l3 l4 l5 : Option PV} {st : List PV} {M : Mem} {Q : Option PV → Mem → Prop} : WP d 41 114 [l0, l1, l2, l3, l4, l5] (st) M Q = WP d 41 116 [l0, l1, l2, l3, l4, l5] (vi 99 :: st) M Q := w_bipush mC_41 d41_114 (by decide)
theorem d41_116 : decode cX4_passHourOf 116 = .ok (.aload_n 0, 1) := by decide +kernel
theorem k41_116 {d x : Nat} {l1 l2 l3 l4 l5 : Option PV} {st : List PV} {M : Mem} {Q : Option PV → Mem → Prop} : WP d 41 116 [some (vr x), l1, l2, l3, l4, l5] (st) M Q = WP d 41 117 [some (vr x), l1, l2, l3, l4, l5] (vr x :: st) M Q := w1 mC_41 d41_116 rfl rfl
theorem d41_117 : decode cX4_passHourOf 117 = .ok (.getfield 15, 3) := by decide +kernel
theorem k41_117 {d : Nat} {l0 l1 l2 l3 l4 l5 : Option PV} {st : List PV} {M : Mem} {Q : Option PV → Mem → Prop} {r : Nat} (hk : mK M r = 4) : WP d 41 117 [l0, l1, l2, l3, l4, l5] (vr r :: st) M Q = WP d 41 120 [l0, l1, l2, l3, l4, l5] (vr (mR M r 1) :: st) M Q := w_getr mC_41 d41_117 fE_4_15 rfl (by rw [hk]; rfl)
theorem d41_120 : decode cX4_passHourOf 120 = .ok (.iload_n 3, 1) := by decide +kernel
theorem k41_120 {d : Nat} {x : Int32} {l0 l1 l2 l4 l5 : Option PV} {st : List PV} {M : Mem} {Q : Option PV → Mem → Prop} : WP d 41 120 [l0, l1, l2, some (vi x), l4, l5] (st) M Q = WP d 41 121 [l0, l1, l2, some (vi x), l4, l5] (vi x :: st) M Q := w1 mC_41 d41_120 rfl rfl
theorem d41_121 : decode cX4_passHourOf 121 = .ok (.iaload, 1) := by decide +kernel
theorem k41_121 {d : Nat} {l0 l1 l2 l3 l4 l5 : Option PV} {st : List PV} {M : Mem} {Q : Option PV → Mem → Prop} {r : Nat} {j : Int32} (hk : mK M r = 13) (hj : inb j (mN M r)) (_h1 : r ≠ 1) : WP d 41 121 [l0, l1, l2, l3, l4, l5] (vi j :: vr r :: st) M Q = WP d 41 122 [l0, l1, l2, l3, l4, l5] (vi (mI M r (ix j)) :: st) M Q := w_iald mC_41 d41_121 hk hj
theorem d41_122 : decode cX4_passHourOf 122 = .ok (.iload 5, 2) := by decide +kernel
theorem k41_122 {d : Nat} {x : Int32} {l0 l1 l2 l3 l4 : Option PV} {st : List PV} {M : Mem} {Q : Option PV → Mem → Prop} : WP d 41 122 [l0, l1, l2, l3, l4, some (vi x)] (st) M Q = WP d 41 124 [l0, l1, l2, l3, l4, some (vi x)] (vi x :: st) M Q := w1 mC_41 d41_122 rfl rfl
theorem d41_124 : decode cX4_passHourOf 124 = .ok (.iadd, 1) := by decide +kernel
theorem k41_124 {d : Nat} {l0 l1 l2 l3 l4 l5 : Option PV} {st : List PV} {M : Mem} {Q : Option PV → Mem → Prop} {x y : Int32} : WP d 41 124 [l0, l1, l2, l3, l4, l5] (vi y :: vi x :: st) M Q = WP d 41 125 [l0, l1, l2, l3, l4, l5] (vi (x + y) :: st) M Q := w1 mC_41 d41_124 rfl rfl
theorem d41_125 : decode cX4_passHourOf 125 = .ok (.invokestatic 95, 3) := by decide +kernel
theorem k41_125 {d : Nat} {l0 l1 l2 l3 l4 l5 : Option PV} {st : List PV} {M : Mem} {Q : Option PV → Mem → Prop} {x y : Int32} (hl : szL st ≤ 8) : WP d 41 125 [l0, l1, l2, l3, l4, l5] (vi y :: vi x :: st) M Q = WP d 41 128 [l0, l1, l2, l3, l4, l5] (vi (if y < x then y else x) :: st) M Q := w_min mC_41 d41_125 rfl rfl rfl hl
theorem d41_128 : decode cX4_passHourOf 128 = .ok (.iastore, 1) := by decide +kernel
theorem k41_128 {d : Nat} {l0 l1 l2 l3 l4 l5 : Option PV} {st : List PV} {M : Mem} {Q : Option PV → Mem → Prop} {r : Nat} {j x : Int32} (hk : mK M r = 13) (hj : inb j (mN M r)) (h1 : r ≠ 1) : WP d 41 128 [l0, l1, l2, l3, l4, l5] (vi x :: vi j :: vr r :: st) M Q = WP d 41 129 [l0, l1, l2, l3, l4, l5] (st) (sI M r (ix j) x) Q := w_iast mC_41 d41_128 hk hj h1
theorem d41_129 : decode cX4_passHourOf 129 = .ok (.aload_n 0, 1) := by decide +kernel
theorem k41_129 {d x : Nat} {l1 l2 l3 l4 l5 : Option PV} {st : List PV} {M : Mem} {Q : Option PV → Mem → Prop} : WP d 41 129 [some (vr x), l1, l2, l3, l4, l5] (st) M Q = WP d 41 130 [some (vr x), l1, l2, l3, l4, l5] (vr x :: st) M Q := w1 mC_41 d41_129 rfl rfl
theorem d41_130 : decode cX4_passHourOf 130 = .ok (.iload_n 1, 1) := by decide +kernel
theorem k41_130 {d : Nat} {x : Int32} {l0 l2 l3 l4 l5 : Option PV} {st : List PV} {M : Mem} {Q : Option PV → Mem → Prop} : WP d 41 130 [l0, some (vi x), l2, l3, l4, l5] (st) M Q = WP d 41 131 [l0, some (vi x), l2, l3, l4, l5] (vi x :: st) M Q := w1 mC_41 d41_130 rfl rfl
theorem d41_131 : decode cX4_passHourOf 131 = .ok (.invokevirtual 81, 3) := by decide +kernel
theorem k41_131 {d : Nat} {l0 l1 l2 l3 l4 l5 : Option PV} {st : List PV} {M : Mem} {Q : Option PV → Mem → Prop} {a0 : Int32} {r : Nat} (hl : szL st ≤ 8) (hk : mK M r = 4) : WP (d + 1) 41 131 [l0, l1, l2, l3, l4, l5] (vi a0 :: vr r :: st) M Q = WP d 38 0 [some (vr r), some (vi a0)] [] M (fun v M' => WP (d + 1) 41 134 [l0, l1, l2, l3, l4, l5] (psh v st) M' Q) := w_callV mC_41 d41_131 (ci := 4) rfl rfl rfl (Nat.le_of_ble_eq_true rfl) (by decide) rfl hl (Or.inl hk)
theorem d41_134 : decode cX4_passHourOf 134 = .ok (.aload_n 0, 1) := by decide +kernel
theorem k41_134 {d x : Nat} {l1 l2 l3 l4 l5 : Option PV} {st : List PV} {M : Mem} {Q : Option PV → Mem → Prop} : WP d 41 134 [some (vr x), l1, l2, l3, l4, l5] (st) M Q = WP d 41 135 [some (vr x), l1, l2, l3, l4, l5] (vr x :: st) M Q := w1 mC_41 d41_134 rfl rfl
theorem d41_135 : decode cX4_passHourOf 135 = .ok (.getfield 30, 3) := by decide +kernel
theorem k41_135 {d : Nat} {l0 l1 l2 l3 l4 l5 : Option PV} {st : List PV} {M : Mem} {Q : Option PV → Mem → Prop} {r : Nat} (hk : mK M r = 4) : WP d 41 135 [l0, l1, l2, l3, l4, l5] (vr r :: st) M Q = WP d 41 138 [l0, l1, l2, l3, l4, l5] (vr (mR M r 6) :: st) M Q := w_getr mC_41 d41_135 fE_4_30 rfl (by rw [hk]; rfl)
theorem d41_138 : decode cX4_passHourOf 138 = .ok (.iconst 3, 1) := by decide +kernel
theorem k41_138 {d : Nat} {l0 l1 l2 l3 l4 l5 : Option PV} {st : List PV} {M : Mem} {Q : Option PV → Mem → Prop} : WP d 41 138 [l0, l1, l2, l3, l4, l5] (st) M Q = WP d 41 139 [l0, l1, l2, l3, l4, l5] (vi 3 :: st) M Q := w_iconst mC_41 d41_138 (by decide)
theorem d41_139 : decode cX4_passHourOf 139 = .ok (.dup2, 1) := by decide +kernel
theorem k41_139 {d : Nat} {l0 l1 l2 l3 l4 l5 : Option PV} {st : List PV} {M : Mem} {Q : Option PV → Mem → Prop} {a : Int32} {b : Nat} : WP d 41 139 [l0, l1, l2, l3, l4, l5] (vi a :: vr b :: st) M Q = WP d 41 140 [l0, l1, l2, l3, l4, l5] (vi a :: vr b :: vi a :: vr b :: st) M Q := w1 mC_41 d41_139 rfl rfl
theorem d41_140 : decode cX4_passHourOf 140 = .ok (.iaload, 1) := by decide +kernel
theorem k41_140 {d : Nat} {l0 l1 l2 l3 l4 l5 : Option PV} {st : List PV} {M : Mem} {Q : Option PV → Mem → Prop} {r : Nat} {j : Int32} (hk : mK M r = 13) (hj : inb j (mN M r)) (_h1 : r ≠ 1) : WP d 41 140 [l0, l1, l2, l3, l4, l5] (vi j :: vr r :: st) M Q = WP d 41 141 [l0, l1, l2, l3, l4, l5] (vi (mI M r (ix j)) :: st) M Q := w_iald mC_41 d41_140 hk hj
theorem d41_141 : decode cX4_passHourOf 141 = .ok (.iconst 1, 1) := by decide +kernel
theorem k41_141 {d : Nat} {l0 l1 l2 l3 l4 l5 : Option PV} {st : List PV} {M : Mem} {Q : Option PV → Mem → Prop} : WP d 41 141 [l0, l1, l2, l3, l4, l5] (st) M Q = WP d 41 142 [l0, l1, l2, l3, l4, l5] (vi 1 :: st) M Q := w_iconst mC_41 d41_141 (by decide)
theorem d41_142 : decode cX4_passHourOf 142 = .ok (.iadd, 1) := by decide +kernel
theorem k41_142 {d : Nat} {l0 l1 l2 l3 l4 l5 : Option PV} {st : List PV} {M : Mem} {Q : Option PV → Mem → Prop} {x y : Int32} : WP d 41 142 [l0, l1, l2, l3, l4, l5] (vi y :: vi x :: st) M Q = WP d 41 143 [l0, l1, l2, l3, l4, l5] (vi (x + y) :: st) M Q := w1 mC_41 d41_142 rfl rfl
theorem d41_143 : decode cX4_passHourOf 143 = .ok (.iastore, 1) := by decide +kernel
theorem k41_143 {d : Nat} {l0 l1 l2 l3 l4 l5 : Option PV} {st : List PV} {M : Mem} {Q : Option PV → Mem → Prop} {r : Nat} {j x : Int32} (hk : mK M r = 13) (hj : inb j (mN M r)) (h1 : r ≠ 1) : WP d 41 143 [l0, l1, l2, l3, l4, l5] (vi x :: vi j :: vr r :: st) M Q = WP d 41 144 [l0, l1, l2, l3, l4, l5] (st) (sI M r (ix j) x) Q := w_iast mC_41 d41_143 hk hj h1
theorem d41_144 : decode cX4_passHourOf 144 = .ok (.iload 5, 2) := by decide +kernel
theorem k41_144 {d : Nat} {x : Int32} {l0 l1 l2 l3 l4 : Option PV} {st : List PV} {M : Mem} {Q : Option PV → Mem → Prop} : WP d 41 144 [l0, l1, l2, l3, l4, some (vi x)] (st) M Q = WP d 41 146 [l0, l1, l2, l3, l4, some (vi x)] (vi x :: st) M Q := w1 mC_41 d41_144 rfl rfl
theorem d41_146 : decode cX4_passHourOf 146 = .ok (.ireturn, 1) := by decide +kernel
theorem k41_146 {d : Nat} {l0 l1 l2 l3 l4 l5 : Option PV} {M : Mem} {Q : Option PV → Mem → Prop} {x : Int32} : WP d 41 146 [l0, l1, l2, l3, l4, l5] ([vi x]) M Q = Q (some (vi x)) M := w_iret mC_41 d41_146 rfl
theorem d42_0 : decode cX4_nearer 0 = .ok (.iload_n 1, 1) := by decide +kernel
theorem k42_0 {d : Nat} {x : Int32} {l0 l2 : Option PV} {st : List PV} {M : Mem} {Q : Option PV → Mem → Prop} : WP d 42 0 [l0, some (vi x), l2] (st) M Q = WP d 42 1 [l0, some (vi x), l2] (vi x :: st) M Q := w1 mC_42 d42_0 rfl rfl
theorem d42_1 : decode cX4_nearer 1 = .ok (.bipush 6, 2) := by decide +kernel
theorem k42_1 {d : Nat} {l0 l1 l2 : Option PV} {st : List PV} {M : Mem} {Q : Option PV → Mem → Prop} : WP d 42 1 [l0, l1, l2] (st) M Q = WP d 42 3 [l0, l1, l2] (vi 6 :: st) M Q := w_bipush mC_42 d42_1 (by decide)
theorem d42_3 : decode cX4_nearer 3 = .ok (.irem, 1) := by decide +kernel
theorem k42_3 {d : Nat} {l0 l1 l2 : Option PV} {st : List PV} {M : Mem} {Q : Option PV → Mem → Prop} {x y : Int32} (h : y ≠ 0) : WP d 42 3 [l0, l1, l2] (vi y :: vi x :: st) M Q = WP d 42 4 [l0, l1, l2] (vi (x % y) :: st) M Q := w_rem mC_42 d42_3 h
theorem d42_4 : decode cX4_nearer 4 = .ok (.iload_n 0, 1) := by decide +kernel
theorem k42_4 {d : Nat} {x : Int32} {l1 l2 : Option PV} {st : List PV} {M : Mem} {Q : Option PV → Mem → Prop} : WP d 42 4 [some (vi x), l1, l2] (st) M Q = WP d 42 5 [some (vi x), l1, l2] (vi x :: st) M Q := w1 mC_42 d42_4 rfl rfl
theorem d42_5 : decode cX4_nearer 5 = .ok (.bipush 6, 2) := by decide +kernel
theorem k42_5 {d : Nat} {l0 l1 l2 : Option PV} {st : List PV} {M : Mem} {Q : Option PV → Mem → Prop} : WP d 42 5 [l0, l1, l2] (st) M Q = WP d 42 7 [l0, l1, l2] (vi 6 :: st) M Q := w_bipush mC_42 d42_5 (by decide)
theorem d42_7 : decode cX4_nearer 7 = .ok (.irem, 1) := by decide +kernel
theorem k42_7 {d : Nat} {l0 l1 l2 : Option PV} {st : List PV} {M : Mem} {Q : Option PV → Mem → Prop} {x y : Int32} (h : y ≠ 0) : WP d 42 7 [l0, l1, l2] (vi y :: vi x :: st) M Q = WP d 42 8 [l0, l1, l2] (vi (x % y) :: st) M Q := w_rem mC_42 d42_7 h
theorem d42_8 : decode cX4_nearer 8 = .ok (.invokestatic 108, 3) := by decide +kernel
theorem k42_8 {d : Nat} {l0 l1 l2 : Option PV} {st : List PV} {M : Mem} {Q : Option PV → Mem → Prop} {a0 a1 : Int32} (hl : szL st ≤ 8) : WP (d + 1) 42 8 [l0, l1, l2] (vi a1 :: vi a0 :: st) M Q = WP d 246 0 [some (vi a0), some (vi a1)] [] M (fun v M' => WP (d + 1) 42 11 [l0, l1, l2] (psh v st) M' Q) := w_callS mC_42 d42_8 rfl rfl (Nat.le_of_ble_eq_true rfl) (by decide) rfl hl
theorem d42_11 : decode cX4_nearer 11 = .ok (.istore_n 2, 1) := by decide +kernel
theorem k42_11 {d : Nat} {l0 l1 l2 : Option PV} {st : List PV} {M : Mem} {Q : Option PV → Mem → Prop} {x : Int32} : WP d 42 11 [l0, l1, l2] (vi x :: st) M Q = WP d 42 12 [l0, l1, some (vi x)] (st) M Q := w1 mC_42 d42_11 rfl rfl
theorem d42_12 : decode cX4_nearer 12 = .ok (.iload_n 2, 1) := by decide +kernel
theorem k42_12 {d : Nat} {x : Int32} {l0 l1 : Option PV} {st : List PV} {M : Mem} {Q : Option PV → Mem → Prop} : WP d 42 12 [l0, l1, some (vi x)] (st) M Q = WP d 42 13 [l0, l1, some (vi x)] (vi x :: st) M Q := w1 mC_42 d42_12 rfl rfl
theorem d42_13 : decode cX4_nearer 13 = .ok (.ifCond .eq 9, 3) := by decide +kernel
theorem k42_13 {d : Nat} {l0 l1 l2 : Option PV} {st : List PV} {M : Mem} {Q : Option PV → Mem → Prop} {x : Int32} : WP d 42 13 [l0, l1, l2] (vi x :: st) M Q = (if x = 0 then WP d 42 22 [l0, l1, l2] (st) M Q else WP d 42 16 [l0, l1, l2] (st) M Q) := w_if_eq mC_42 d42_13 (by decide)
theorem d42_16 : decode cX4_nearer 16 = .ok (.iload_n 0, 1) := by decide +kernel
theorem k42_16 {d : Nat} {x : Int32} {l1 l2 : Option PV} {st : List PV} {M : Mem} {Q : Option PV → Mem → Prop} : WP d 42 16 [some (vi x), l1, l2] (st) M Q = WP d 42 17 [some (vi x), l1, l2] (vi x :: st) M Q := w1 mC_42 d42_16 rfl rfl
theorem d42_17 : decode cX4_nearer 17 = .ok (.iload_n 2, 1) := by decide +kernel
theorem k42_17 {d : Nat} {x : Int32} {l0 l1 : Option PV} {st : List PV} {M : Mem} {Q : Option PV → Mem → Prop} : WP d 42 17 [l0, l1, some (vi x)] (st) M Q = WP d 42 18 [l0, l1, some (vi x)] (vi x :: st) M Q := w1 mC_42 d42_17 rfl rfl
theorem d42_18 : decode cX4_nearer 18 = .ok (.iadd, 1) := by decide +kernel
theorem k42_18 {d : Nat} {l0 l1 l2 : Option PV} {st : List PV} {M : Mem} {Q : Option PV → Mem → Prop} {x y : Int32} : WP d 42 18 [l0, l1, l2] (vi y :: vi x :: st) M Q = WP d 42 19 [l0, l1, l2] (vi (x + y) :: st) M Q := w1 mC_42 d42_18 rfl rfl
theorem d42_19 : decode cX4_nearer 19 = .ok (.goto 19, 3) := by decide +kernel
theorem k42_19 {d : Nat} {l0 l1 l2 : Option PV} {st : List PV} {M : Mem} {Q : Option PV → Mem → Prop} : WP d 42 19 [l0, l1, l2] (st) M Q = WP d 42 38 [l0, l1, l2] (st) M Q := w_goto mC_42 d42_19 (by decide)
theorem d42_22 : decode cX4_nearer 22 = .ok (.iload_n 0, 1) := by decide +kernel
theorem k42_22 {d : Nat} {x : Int32} {l1 l2 : Option PV} {st : List PV} {M : Mem} {Q : Option PV → Mem → Prop} : WP d 42 22 [some (vi x), l1, l2] (st) M Q = WP d 42 23 [some (vi x), l1, l2] (vi x :: st) M Q := w1 mC_42 d42_22 rfl rfl
theorem d42_23 : decode cX4_nearer 23 = .ok (.bipush 6, 2) := by decide +kernel
theorem k42_23 {d : Nat} {l0 l1 l2 : Option PV} {st : List PV} {M : Mem} {Q : Option PV → Mem → Prop} : WP d 42 23 [l0, l1, l2] (st) M Q = WP d 42 25 [l0, l1, l2] (vi 6 :: st) M Q := w_bipush mC_42 d42_23 (by decide)
theorem d42_25 : decode cX4_nearer 25 = .ok (.iload_n 1, 1) := by decide +kernel
theorem k42_25 {d : Nat} {x : Int32} {l0 l2 : Option PV} {st : List PV} {M : Mem} {Q : Option PV → Mem → Prop} : WP d 42 25 [l0, some (vi x), l2] (st) M Q = WP d 42 26 [l0, some (vi x), l2] (vi x :: st) M Q := w1 mC_42 d42_25 rfl rfl
theorem d42_26 : decode cX4_nearer 26 = .ok (.bipush 6, 2) := by decide +kernel
theorem k42_26 {d : Nat} {l0 l1 l2 : Option PV} {st : List PV} {M : Mem} {Q : Option PV → Mem → Prop} : WP d 42 26 [l0, l1, l2] (st) M Q = WP d 42 28 [l0, l1, l2] (vi 6 :: st) M Q := w_bipush mC_42 d42_26 (by decide)
theorem d42_28 : decode cX4_nearer 28 = .ok (.idiv, 1) := by decide +kernel
theorem k42_28 {d : Nat} {l0 l1 l2 : Option PV} {st : List PV} {M : Mem} {Q : Option PV → Mem → Prop} {x y : Int32} (h : y ≠ 0) : WP d 42 28 [l0, l1, l2] (vi y :: vi x :: st) M Q = WP d 42 29 [l0, l1, l2] (vi (x / y) :: st) M Q := w_div mC_42 d42_28 h
theorem d42_29 : decode cX4_nearer 29 = .ok (.iload_n 0, 1) := by decide +kernel
theorem k42_29 {d : Nat} {x : Int32} {l1 l2 : Option PV} {st : List PV} {M : Mem} {Q : Option PV → Mem → Prop} : WP d 42 29 [some (vi x), l1, l2] (st) M Q = WP d 42 30 [some (vi x), l1, l2] (vi x :: st) M Q := w1 mC_42 d42_29 rfl rfl
theorem d42_30 : decode cX4_nearer 30 = .ok (.bipush 6, 2) := by decide +kernel
theorem k42_30 {d : Nat} {l0 l1 l2 : Option PV} {st : List PV} {M : Mem} {Q : Option PV → Mem → Prop} : WP d 42 30 [l0, l1, l2] (st) M Q = WP d 42 32 [l0, l1, l2] (vi 6 :: st) M Q := w_bipush mC_42 d42_30 (by decide)
theorem d42_32 : decode cX4_nearer 32 = .ok (.idiv, 1) := by decide +kernel
theorem k42_32 {d : Nat} {l0 l1 l2 : Option PV} {st : List PV} {M : Mem} {Q : Option PV → Mem → Prop} {x y : Int32} (h : y ≠ 0) : WP d 42 32 [l0, l1, l2] (vi y :: vi x :: st) M Q = WP d 42 33 [l0, l1, l2] (vi (x / y) :: st) M Q := w_div mC_42 d42_32 h
theorem d42_33 : decode cX4_nearer 33 = .ok (.invokestatic 108, 3) := by decide +kernel
theorem k42_33 {d : Nat} {l0 l1 l2 : Option PV} {st : List PV} {M : Mem} {Q : Option PV → Mem → Prop} {a0 a1 : Int32} (hl : szL st ≤ 8) : WP (d + 1) 42 33 [l0, l1, l2] (vi a1 :: vi a0 :: st) M Q = WP d 246 0 [some (vi a0), some (vi a1)] [] M (fun v M' => WP (d + 1) 42 36 [l0, l1, l2] (psh v st) M' Q) := w_callS mC_42 d42_33 rfl rfl (Nat.le_of_ble_eq_true rfl) (by decide) rfl hl
theorem d42_36 : decode cX4_nearer 36 = .ok (.imul, 1) := by decide +kernel
theorem k42_36 {d : Nat} {l0 l1 l2 : Option PV} {st : List PV} {M : Mem} {Q : Option PV → Mem → Prop} {x y : Int32} : WP d 42 36 [l0, l1, l2] (vi y :: vi x :: st) M Q = WP d 42 37 [l0, l1, l2] (vi (x * y) :: st) M Q := w1 mC_42 d42_36 rfl rfl
theorem d42_37 : decode cX4_nearer 37 = .ok (.iadd, 1) := by decide +kernel
theorem k42_37 {d : Nat} {l0 l1 l2 : Option PV} {st : List PV} {M : Mem} {Q : Option PV → Mem → Prop} {x y : Int32} : WP d 42 37 [l0, l1, l2] (vi y :: vi x :: st) M Q = WP d 42 38 [l0, l1, l2] (vi (x + y) :: st) M Q := w1 mC_42 d42_37 rfl rfl
theorem d42_38 : decode cX4_nearer 38 = .ok (.ireturn, 1) := by decide +kernel
theorem k42_38 {d : Nat} {l0 l1 l2 : Option PV} {M : Mem} {Q : Option PV → Mem → Prop} {x : Int32} : WP d 42 38 [l0, l1, l2] ([vi x]) M Q = Q (some (vi x)) M := w_iret mC_42 d42_38 rfl
theorem d43_0 : decode cX4_endHour 0 = .ok (.aload_n 0, 1) := by decide +kernel
theorem k43_0 {d x : Nat} {st : List PV} {M : Mem} {Q : Option PV → Mem → Prop} : WP d 43 0 [some (vr x)] (st) M Q = WP d 43 1 [some (vr x)] (vr x :: st) M Q := w1 mC_43 d43_0 rfl rfl
theorem d43_1 : decode cX4_endHour 1 = .ok (.aload_n 0, 1) := by decide +kernel
theorem k43_1 {d x : Nat} {st : List PV} {M : Mem} {Q : Option PV → Mem → Prop} : WP d 43 1 [some (vr x)] (st) M Q = WP d 43 2 [some (vr x)] (vr x :: st) M Q := w1 mC_43 d43_1 rfl rfl
theorem d43_2 : decode cX4_endHour 2 = .ok (.getfield 54, 3) := by decide +kernel
theorem k43_2 {d : Nat} {l0 : Option PV} {st : List PV} {M : Mem} {Q : Option PV → Mem → Prop} {r : Nat} (hk : mK M r = 4) : WP d 43 2 [l0] (vr r :: st) M Q = WP d 43 5 [l0] (vi (mI M r 10) :: st) M Q := w_get mC_43 d43_2 fE_4_54 rfl (by rw [hk]; rfl)
theorem d43_5 : decode cX4_endHour 5 = .ok (.bipush 11, 2) := by decide +kernel
theorem k43_5 {d : Nat} {l0 : Option PV} {st : List PV} {M : Mem} {Q : Option PV → Mem → Prop} : WP d 43 5 [l0] (st) M Q = WP d 43 7 [l0] (vi 11 :: st) M Q := w_bipush mC_43 d43_5 (by decide)
theorem d43_7 : decode cX4_endHour 7 = .ok (.if_icmp .ge 12, 3) := by decide +kernel
theorem k43_7 {d : Nat} {l0 : Option PV} {st : List PV} {M : Mem} {Q : Option PV → Mem → Prop} {x y : Int32} : WP d 43 7 [l0] (vi y :: vi x :: st) M Q = (if y ≤ x then WP d 43 19 [l0] (st) M Q else WP d 43 10 [l0] (st) M Q) := w_ic_ge mC_43 d43_7 (by decide)
theorem d43_10 : decode cX4_endHour 10 = .ok (.aload_n 0, 1) := by decide +kernel
theorem k43_10 {d x : Nat} {st : List PV} {M : Mem} {Q : Option PV → Mem → Prop} : WP d 43 10 [some (vr x)] (st) M Q = WP d 43 11 [some (vr x)] (vr x :: st) M Q := w1 mC_43 d43_10 rfl rfl
theorem d43_11 : decode cX4_endHour 11 = .ok (.getfield 54, 3) := by decide +kernel
theorem k43_11 {d : Nat} {l0 : Option PV} {st : List PV} {M : Mem} {Q : Option PV → Mem → Prop} {r : Nat} (hk : mK M r = 4) : WP d 43 11 [l0] (vr r :: st) M Q = WP d 43 14 [l0] (vi (mI M r 10) :: st) M Q := w_get mC_43 d43_11 fE_4_54 rfl (by rw [hk]; rfl)
theorem d43_14 : decode cX4_endHour 14 = .ok (.iconst 1, 1) := by decide +kernel
theorem k43_14 {d : Nat} {l0 : Option PV} {st : List PV} {M : Mem} {Q : Option PV → Mem → Prop} : WP d 43 14 [l0] (st) M Q = WP d 43 15 [l0] (vi 1 :: st) M Q := w_iconst mC_43 d43_14 (by decide)
theorem d43_15 : decode cX4_endHour 15 = .ok (.iadd, 1) := by decide +kernel
theorem k43_15 {d : Nat} {l0 : Option PV} {st : List PV} {M : Mem} {Q : Option PV → Mem → Prop} {x y : Int32} : WP d 43 15 [l0] (vi y :: vi x :: st) M Q = WP d 43 16 [l0] (vi (x + y) :: st) M Q := w1 mC_43 d43_15 rfl rfl
theorem d43_16 : decode cX4_endHour 16 = .ok (.goto 4, 3) := by decide +kernel
theorem k43_16 {d : Nat} {l0 : Option PV} {st : List PV} {M : Mem} {Q : Option PV → Mem → Prop} : WP d 43 16 [l0] (st) M Q = WP d 43 20 [l0] (st) M Q := w_goto mC_43 d43_16 (by decide)
theorem d43_19 : decode cX4_endHour 19 = .ok (.iconst 0, 1) := by decide +kernel
theorem k43_19 {d : Nat} {l0 : Option PV} {st : List PV} {M : Mem} {Q : Option PV → Mem → Prop} : WP d 43 19 [l0] (st) M Q = WP d 43 20 [l0] (vi 0 :: st) M Q := w_iconst mC_43 d43_19 (by decide)
theorem d43_20 : decode cX4_endHour 20 = .ok (.putfield 54, 3) := by decide +kernel
theorem k43_20 {d : Nat} {l0 : Option PV} {st : List PV} {M : Mem} {Q : Option PV → Mem → Prop} {r : Nat} {x : Int32} (hk : mK M r = 4) : WP d 43 20 [l0] (vi x :: vr r :: st) M Q = WP d 43 23 [l0] (st) (sI M r 10 x) Q := w_put mC_43 d43_20 fE_4_54 (by decide +kernel) (by rw [hk]; rfl)
theorem d43_23 : decode cX4_endHour 23 = .ok (.aload_n 0, 1) := by decide +kernel
theorem k43_23 {d x : Nat} {st : List PV} {M : Mem} {Q : Option PV → Mem → Prop} : WP d 43 23 [some (vr x)] (st) M Q = WP d 43 24 [some (vr x)] (vr x :: st) M Q := w1 mC_43 d43_23 rfl rfl
theorem d43_24 : decode cX4_endHour 24 = .ok (.getfield 30, 3) := by decide +kernel
theorem k43_24 {d : Nat} {l0 : Option PV} {st : List PV} {M : Mem} {Q : Option PV → Mem → Prop} {r : Nat} (hk : mK M r = 4) : WP d 43 24 [l0] (vr r :: st) M Q = WP d 43 27 [l0] (vr (mR M r 6) :: st) M Q := w_getr mC_43 d43_24 fE_4_30 rfl (by rw [hk]; rfl)
theorem d43_27 : decode cX4_endHour 27 = .ok (.iconst 0, 1) := by decide +kernel
theorem k43_27 {d : Nat} {l0 : Option PV} {st : List PV} {M : Mem} {Q : Option PV → Mem → Prop} : WP d 43 27 [l0] (st) M Q = WP d 43 28 [l0] (vi 0 :: st) M Q := w_iconst mC_43 d43_27 (by decide)
theorem d43_28 : decode cX4_endHour 28 = .ok (.dup2, 1) := by decide +kernel
theorem k43_28 {d : Nat} {l0 : Option PV} {st : List PV} {M : Mem} {Q : Option PV → Mem → Prop} {a : Int32} {b : Nat} : WP d 43 28 [l0] (vi a :: vr b :: st) M Q = WP d 43 29 [l0] (vi a :: vr b :: vi a :: vr b :: st) M Q := w1 mC_43 d43_28 rfl rfl
theorem d43_29 : decode cX4_endHour 29 = .ok (.iaload, 1) := by decide +kernel
theorem k43_29 {d : Nat} {l0 : Option PV} {st : List PV} {M : Mem} {Q : Option PV → Mem → Prop} {r : Nat} {j : Int32} (hk : mK M r = 13) (hj : inb j (mN M r)) (_h1 : r ≠ 1) : WP d 43 29 [l0] (vi j :: vr r :: st) M Q = WP d 43 30 [l0] (vi (mI M r (ix j)) :: st) M Q := w_iald mC_43 d43_29 hk hj
theorem d43_30 : decode cX4_endHour 30 = .ok (.iconst 1, 1) := by decide +kernel
theorem k43_30 {d : Nat} {l0 : Option PV} {st : List PV} {M : Mem} {Q : Option PV → Mem → Prop} : WP d 43 30 [l0] (st) M Q = WP d 43 31 [l0] (vi 1 :: st) M Q := w_iconst mC_43 d43_30 (by decide)
theorem d43_31 : decode cX4_endHour 31 = .ok (.iadd, 1) := by decide +kernel
theorem k43_31 {d : Nat} {l0 : Option PV} {st : List PV} {M : Mem} {Q : Option PV → Mem → Prop} {x y : Int32} : WP d 43 31 [l0] (vi y :: vi x :: st) M Q = WP d 43 32 [l0] (vi (x + y) :: st) M Q := w1 mC_43 d43_31 rfl rfl
theorem d43_32 : decode cX4_endHour 32 = .ok (.iastore, 1) := by decide +kernel
theorem k43_32 {d : Nat} {l0 : Option PV} {st : List PV} {M : Mem} {Q : Option PV → Mem → Prop} {r : Nat} {j x : Int32} (hk : mK M r = 13) (hj : inb j (mN M r)) (h1 : r ≠ 1) : WP d 43 32 [l0] (vi x :: vi j :: vr r :: st) M Q = WP d 43 33 [l0] (st) (sI M r (ix j) x) Q := w_iast mC_43 d43_32 hk hj h1
theorem d43_33 : decode cX4_endHour 33 = .ok (.return_, 1) := by decide +kernel
theorem k43_33 {d : Nat} {l0 : Option PV} {M : Mem} {Q : Option PV → Mem → Prop} : WP d 43 33 [l0] ([]) M Q = Q none M := w_vret mC_43 d43_33 rfl
theorem d44_0 : decode cX4_passHour 0 = .ok (.iconst 0, 1) := by decide +kernel
theorem k44_0 {d : Nat} {l0 l1 l2 l3 : Option PV} {st : List PV} {M : Mem} {Q : Option PV → Mem → Prop} : WP d 44 0 [l0, l1, l2, l3] (st) M Q = WP d 44 1 [l0, l1, l2, l3] (vi 0 :: st) M Q := w_iconst mC_44 d44_0 (by decide)
theorem d44_1 : decode cX4_passHour 1 = .ok (.istore_n 2, 1) := by decide +kernel
theorem k44_1 {d : Nat} {l0 l1 l2 l3 : Option PV} {st : List PV} {M : Mem} {Q : Option PV → Mem → Prop} {x : Int32} : WP d 44 1 [l0, l1, l2, l3] (vi x :: st) M Q = WP d 44 2 [l0, l1, some (vi x), l3] (st) M Q := w1 mC_44 d44_1 rfl rfl
theorem d44_2 : decode cX4_passHour 2 = .ok (.iconst 0, 1) := by decide +kernel
theorem k44_2 {d : Nat} {l0 l1 l2 l3 : Option PV} {st : List PV} {M : Mem} {Q : Option PV → Mem → Prop} : WP d 44 2 [l0, l1, l2, l3] (st) M Q = WP d 44 3 [l0, l1, l2, l3] (vi 0 :: st) M Q := w_iconst mC_44 d44_2 (by decide)
theorem d44_3 : decode cX4_passHour 3 = .ok (.istore_n 3, 1) := by decide +kernel
theorem k44_3 {d : Nat} {l0 l1 l2 l3 : Option PV} {st : List PV} {M : Mem} {Q : Option PV → Mem → Prop} {x : Int32} : WP d 44 3 [l0, l1, l2, l3] (vi x :: st) M Q = WP d 44 4 [l0, l1, l2, some (vi x)] (st) M Q := w1 mC_44 d44_3 rfl rfl
theorem d44_4 : decode cX4_passHour 4 = .ok (.iload_n 3, 1) := by decide +kernel
theorem k44_4 {d : Nat} {x : Int32} {l0 l1 l2 : Option PV} {st : List PV} {M : Mem} {Q : Option PV → Mem → Prop} : WP d 44 4 [l0, l1, l2, some (vi x)] (st) M Q = WP d 44 5 [l0, l1, l2, some (vi x)] (vi x :: st) M Q := w1 mC_44 d44_4 rfl rfl
theorem d44_5 : decode cX4_passHour 5 = .ok (.aload_n 0, 1) := by decide +kernel
theorem k44_5 {d x : Nat} {l1 l2 l3 : Option PV} {st : List PV} {M : Mem} {Q : Option PV → Mem → Prop} : WP d 44 5 [some (vr x), l1, l2, l3] (st) M Q = WP d 44 6 [some (vr x), l1, l2, l3] (vr x :: st) M Q := w1 mC_44 d44_5 rfl rfl
theorem d44_6 : decode cX4_passHour 6 = .ok (.getfield 44, 3) := by decide +kernel
theorem k44_6 {d : Nat} {l0 l1 l2 l3 : Option PV} {st : List PV} {M : Mem} {Q : Option PV → Mem → Prop} {r : Nat} (hk : mK M r = 4) : WP d 44 6 [l0, l1, l2, l3] (vr r :: st) M Q = WP d 44 9 [l0, l1, l2, l3] (vi (mI M r 8) :: st) M Q := w_get mC_44 d44_6 fE_4_44 rfl (by rw [hk]; rfl)
theorem d44_9 : decode cX4_passHour 9 = .ok (.if_icmp .ge 26, 3) := by decide +kernel
theorem k44_9 {d : Nat} {l0 l1 l2 l3 : Option PV} {st : List PV} {M : Mem} {Q : Option PV → Mem → Prop} {x y : Int32} : WP d 44 9 [l0, l1, l2, l3] (vi y :: vi x :: st) M Q = (if y ≤ x then WP d 44 35 [l0, l1, l2, l3] (st) M Q else WP d 44 12 [l0, l1, l2, l3] (st) M Q) := w_ic_ge mC_44 d44_9 (by decide)
theorem d44_12 : decode cX4_passHour 12 = .ok (.iload_n 2, 1) := by decide +kernel
theorem k44_12 {d : Nat} {x : Int32} {l0 l1 l3 : Option PV} {st : List PV} {M : Mem} {Q : Option PV → Mem → Prop} : WP d 44 12 [l0, l1, some (vi x), l3] (st) M Q = WP d 44 13 [l0, l1, some (vi x), l3] (vi x :: st) M Q := w1 mC_44 d44_12 rfl rfl
theorem d44_13 : decode cX4_passHour 13 = .ok (.aload_n 0, 1) := by decide +kernel
theorem k44_13 {d x : Nat} {l1 l2 l3 : Option PV} {st : List PV} {M : Mem} {Q : Option PV → Mem → Prop} : WP d 44 13 [some (vr x), l1, l2, l3] (st) M Q = WP d 44 14 [some (vr x), l1, l2, l3] (vr x :: st) M Q := w1 mC_44 d44_13 rfl rfl
theorem d44_14 : decode cX4_passHour 14 = .ok (.iload_n 3, 1) := by decide +kernel
theorem k44_14 {d : Nat} {x : Int32} {l0 l1 l2 : Option PV} {st : List PV} {M : Mem} {Q : Option PV → Mem → Prop} : WP d 44 14 [l0, l1, l2, some (vi x)] (st) M Q = WP d 44 15 [l0, l1, l2, some (vi x)] (vi x :: st) M Q := w1 mC_44 d44_14 rfl rfl
theorem d44_15 : decode cX4_passHour 15 = .ok (.aload_n 1, 1) := by decide +kernel
theorem k44_15 {d x : Nat} {l0 l2 l3 : Option PV} {st : List PV} {M : Mem} {Q : Option PV → Mem → Prop} : WP d 44 15 [l0, some (vr x), l2, l3] (st) M Q = WP d 44 16 [l0, some (vr x), l2, l3] (vr x :: st) M Q := w1 mC_44 d44_15 rfl rfl
theorem d44_16 : decode cX4_passHour 16 = .ok (.invokevirtual 113, 3) := by decide +kernel
theorem k44_16 {d : Nat} {l0 l1 l2 l3 : Option PV} {st : List PV} {M : Mem} {Q : Option PV → Mem → Prop} {a0 : Int32} {a1 : Nat} {r : Nat} (hl : szL st ≤ 8) (hk : mK M r = 4) : WP (d + 1) 44 16 [l0, l1, l2, l3] (vr a1 :: vi a0 :: vr r :: st) M Q = WP d 41 0 [some (vr r), some (vi a0), some (vr a1), none, none, none] [] M (fun v M' => WP (d + 1) 44 19 [l0, l1, l2, l3] (psh v st) M' Q) := w_callV mC_44 d44_16 (ci := 4) rfl rfl rfl (Nat.le_of_ble_eq_true rfl) (by decide) rfl hl (Or.inl hk)
theorem d44_19 : decode cX4_passHour 19 = .ok (.ifCond .lt 7, 3) := by decide +kernel
theorem k44_19 {d : Nat} {l0 l1 l2 l3 : Option PV} {st : List PV} {M : Mem} {Q : Option PV → Mem → Prop} {x : Int32} : WP d 44 19 [l0, l1, l2, l3] (vi x :: st) M Q = (if x < 0 then WP d 44 26 [l0, l1, l2, l3] (st) M Q else WP d 44 22 [l0, l1, l2, l3] (st) M Q) := w_if_lt mC_44 d44_19 (by decide)
theorem d44_22 : decode cX4_passHour 22 = .ok (.iconst 1, 1) := by decide +kernel
theorem k44_22 {d : Nat} {l0 l1 l2 l3 : Option PV} {st : List PV} {M : Mem} {Q : Option PV → Mem → Prop} : WP d 44 22 [l0, l1, l2, l3] (st) M Q = WP d 44 23 [l0, l1, l2, l3] (vi 1 :: st) M Q := w_iconst mC_44 d44_22 (by decide)
theorem d44_23 : decode cX4_passHour 23 = .ok (.goto 4, 3) := by decide +kernel
theorem k44_23 {d : Nat} {l0 l1 l2 l3 : Option PV} {st : List PV} {M : Mem} {Q : Option PV → Mem → Prop} : WP d 44 23 [l0, l1, l2, l3] (st) M Q = WP d 44 27 [l0, l1, l2, l3] (st) M Q := w_goto mC_44 d44_23 (by decide)
theorem d44_26 : decode cX4_passHour 26 = .ok (.iconst 0, 1) := by decide +kernel
theorem k44_26 {d : Nat} {l0 l1 l2 l3 : Option PV} {st : List PV} {M : Mem} {Q : Option PV → Mem → Prop} : WP d 44 26 [l0, l1, l2, l3] (st) M Q = WP d 44 27 [l0, l1, l2, l3] (vi 0 :: st) M Q := w_iconst mC_44 d44_26 (by decide)
theorem d44_27 : decode cX4_passHour 27 = .ok (.iadd, 1) := by decide +kernel
theorem k44_27 {d : Nat} {l0 l1 l2 l3 : Option PV} {st : List PV} {M : Mem} {Q : Option PV → Mem → Prop} {x y : Int32} : WP d 44 27 [l0, l1, l2, l3] (vi y :: vi x :: st) M Q = WP d 44 28 [l0, l1, l2, l3] (vi (x + y) :: st) M Q := w1 mC_44 d44_27 rfl rfl
theorem d44_28 : decode cX4_passHour 28 = .ok (.istore_n 2, 1) := by decide +kernel
theorem k44_28 {d : Nat} {l0 l1 l2 l3 : Option PV} {st : List PV} {M : Mem} {Q : Option PV → Mem → Prop} {x : Int32} : WP d 44 28 [l0, l1, l2, l3] (vi x :: st) M Q = WP d 44 29 [l0, l1, some (vi x), l3] (st) M Q := w1 mC_44 d44_28 rfl rfl
theorem d44_29 : decode cX4_passHour 29 = .ok (.iinc 3 1, 3) := by decide +kernel
theorem k44_29 {d : Nat} {x : Int32} {l0 l1 l2 : Option PV} {st : List PV} {M : Mem} {Q : Option PV → Mem → Prop} : WP d 44 29 [l0, l1, l2, some (vi x)] (st) M Q = WP d 44 32 [l0, l1, l2, some (vi (x + 1))] (st) M Q := w_iinc mC_44 d44_29 rfl (by decide) rfl
theorem d44_32 : decode cX4_passHour 32 = .ok (.goto (-28), 3) := by decide +kernel
theorem k44_32 {d : Nat} {l0 l1 l2 l3 : Option PV} {st : List PV} {M : Mem} {Q : Option PV → Mem → Prop} : WP d 44 32 [l0, l1, l2, l3] (st) M Q = WP d 44 4 [l0, l1, l2, l3] (st) M Q := w_goto mC_44 d44_32 (by decide)
theorem d44_35 : decode cX4_passHour 35 = .ok (.aload_n 0, 1) := by decide +kernel
theorem k44_35 {d x : Nat} {l1 l2 l3 : Option PV} {st : List PV} {M : Mem} {Q : Option PV → Mem → Prop} : WP d 44 35 [some (vr x), l1, l2, l3] (st) M Q = WP d 44 36 [some (vr x), l1, l2, l3] (vr x :: st) M Q := w1 mC_44 d44_35 rfl rfl
theorem d44_36 : decode cX4_passHour 36 = .ok (.invokevirtual 116, 3) := by decide +kernel
theorem k44_36 {d : Nat} {l0 l1 l2 l3 : Option PV} {st : List PV} {M : Mem} {Q : Option PV → Mem → Prop} {r : Nat} (hl : szL st ≤ 8) (hk : mK M r = 4) : WP (d + 1) 44 36 [l0, l1, l2, l3] (vr r :: st) M Q = WP d 43 0 [some (vr r)] [] M (fun v M' => WP (d + 1) 44 39 [l0, l1, l2, l3] (psh v st) M' Q) := w_callV mC_44 d44_36 (ci := 4) rfl rfl rfl (Nat.le_of_ble_eq_true rfl) (by decide) rfl hl (Or.inl hk)
theorem d44_39 : decode cX4_passHour 39 = .ok (.iload_n 2, 1) := by decide +kernel
theorem k44_39 {d : Nat} {x : Int32} {l0 l1 l3 : Option PV} {st : List PV} {M : Mem} {Q : Option PV → Mem → Prop} : WP d 44 39 [l0, l1, some (vi x), l3] (st) M Q = WP d 44 40 [l0, l1, some (vi x), l3] (vi x :: st) M Q := w1 mC_44 d44_39 rfl rfl
theorem d44_40 : decode cX4_passHour 40 = .ok (.ireturn, 1) := by decide +kernel
theorem k44_40 {d : Nat} {l0 l1 l2 l3 : Option PV} {M : Mem} {Q : Option PV → Mem → Prop} {x : Int32} : WP d 44 40 [l0, l1, l2, l3] ([vi x]) M Q = Q (some (vi x)) M := w_iret mC_44 d44_40 rfl
