/-! step rows, by program (wip/p44/gen_rows.py) -/
theorem d7_0 : decode cX3_init 0 = .ok (.aload_n 0, 1) := by decide +kernel
theorem k7_0 {d x : Nat} {st : List PV} {M : Mem} {Q : Option PV → Mem → Prop} : WP d 7 0 [some (vr x)] (st) M Q = WP d 7 1 [some (vr x)] (vr x :: st) M Q := w1 mC_7 d7_0 rfl rfl
theorem d7_1 : decode cX3_init 1 = .ok (.invokespecial 3, 3) := by decide +kernel
theorem k7_1 {d : Nat} {l0 : Option PV} {st : List PV} {M : Mem} {Q : Option PV → Mem → Prop} {r : Nat} (hl : szL st ≤ 8) (hk : mK M r < 13) : WP d 7 1 [l0] (vr r :: st) M Q = WP d 7 4 [l0] (st) M Q := w_oi mC_7 d7_1 rfl rfl rfl rfl hl hk
theorem d7_4 : decode cX3_init 4 = .ok (.aload_n 0, 1) := by decide +kernel
theorem k7_4 {d x : Nat} {st : List PV} {M : Mem} {Q : Option PV → Mem → Prop} : WP d 7 4 [some (vr x)] (st) M Q = WP d 7 5 [some (vr x)] (vr x :: st) M Q := w1 mC_7 d7_4 rfl rfl
theorem d7_5 : decode cX3_init 5 = .ok (.bipush 121, 2) := by decide +kernel
theorem k7_5 {d : Nat} {l0 : Option PV} {st : List PV} {M : Mem} {Q : Option PV → Mem → Prop} : WP d 7 5 [l0] (st) M Q = WP d 7 7 [l0] (vi 121 :: st) M Q := w_bipush mC_7 d7_5 (by decide)
theorem d7_7 : decode cX3_init 7 = .ok (.newarray .int, 2) := by decide +kernel
theorem k7_7 {d : Nat} {l0 : Option PV} {st : List PV} {M : Mem} {Q : Option PV → Mem → Prop} {x : Int32} (hx : ¬ x < 0 ∧ ix x ≤ 100000) : WP d 7 7 [l0] (vi x :: st) M Q = WP d 7 9 [l0] (vr (mX M) :: st) (nw M 13 (ix x) (ix x)) Q := w_nwi mC_7 d7_7 hx
theorem d7_9 : decode cX3_init 9 = .ok (.putfield 11, 3) := by decide +kernel
theorem k7_9 {d : Nat} {l0 : Option PV} {st : List PV} {M : Mem} {Q : Option PV → Mem → Prop} {r q : Nat} (hk : mK M r = 3) : WP d 7 9 [l0] (vr q :: vr r :: st) M Q = WP d 7 12 [l0] (st) (sR M r 0 q) Q := w_putr mC_7 d7_9 fE_3_11 (by decide +kernel) (by rw [hk]; rfl)
theorem d7_12 : decode cX3_init 12 = .ok (.aload_n 0, 1) := by decide +kernel
theorem k7_12 {d x : Nat} {st : List PV} {M : Mem} {Q : Option PV → Mem → Prop} : WP d 7 12 [some (vr x)] (st) M Q = WP d 7 13 [some (vr x)] (vr x :: st) M Q := w1 mC_7 d7_12 rfl rfl
theorem d7_13 : decode cX3_init 13 = .ok (.bipush 121, 2) := by decide +kernel
theorem k7_13 {d : Nat} {l0 : Option PV} {st : List PV} {M : Mem} {Q : Option PV → Mem → Prop} : WP d 7 13 [l0] (st) M Q = WP d 7 15 [l0] (vi 121 :: st) M Q := w_bipush mC_7 d7_13 (by decide)
theorem d7_15 : decode cX3_init 15 = .ok (.newarray .int, 2) := by decide +kernel
theorem k7_15 {d : Nat} {l0 : Option PV} {st : List PV} {M : Mem} {Q : Option PV → Mem → Prop} {x : Int32} (hx : ¬ x < 0 ∧ ix x ≤ 100000) : WP d 7 15 [l0] (vi x :: st) M Q = WP d 7 17 [l0] (vr (mX M) :: st) (nw M 13 (ix x) (ix x)) Q := w_nwi mC_7 d7_15 hx
theorem d7_17 : decode cX3_init 17 = .ok (.putfield 15, 3) := by decide +kernel
theorem k7_17 {d : Nat} {l0 : Option PV} {st : List PV} {M : Mem} {Q : Option PV → Mem → Prop} {r q : Nat} (hk : mK M r = 3) : WP d 7 17 [l0] (vr q :: vr r :: st) M Q = WP d 7 20 [l0] (st) (sR M r 1 q) Q := w_putr mC_7 d7_17 fE_3_15 (by decide +kernel) (by rw [hk]; rfl)
theorem d7_20 : decode cX3_init 20 = .ok (.aload_n 0, 1) := by decide +kernel
theorem k7_20 {d x : Nat} {st : List PV} {M : Mem} {Q : Option PV → Mem → Prop} : WP d 7 20 [some (vr x)] (st) M Q = WP d 7 21 [some (vr x)] (vr x :: st) M Q := w1 mC_7 d7_20 rfl rfl
theorem d7_21 : decode cX3_init 21 = .ok (.bipush 121, 2) := by decide +kernel
theorem k7_21 {d : Nat} {l0 : Option PV} {st : List PV} {M : Mem} {Q : Option PV → Mem → Prop} : WP d 7 21 [l0] (st) M Q = WP d 7 23 [l0] (vi 121 :: st) M Q := w_bipush mC_7 d7_21 (by decide)
theorem d7_23 : decode cX3_init 23 = .ok (.newarray .int, 2) := by decide +kernel
theorem k7_23 {d : Nat} {l0 : Option PV} {st : List PV} {M : Mem} {Q : Option PV → Mem → Prop} {x : Int32} (hx : ¬ x < 0 ∧ ix x ≤ 100000) : WP d 7 23 [l0] (vi x :: st) M Q = WP d 7 25 [l0] (vr (mX M) :: st) (nw M 13 (ix x) (ix x)) Q := w_nwi mC_7 d7_23 hx
theorem d7_25 : decode cX3_init 25 = .ok (.putfield 18, 3) := by decide +kernel
theorem k7_25 {d : Nat} {l0 : Option PV} {st : List PV} {M : Mem} {Q : Option PV → Mem → Prop} {r q : Nat} (hk : mK M r = 3) : WP d 7 25 [l0] (vr q :: vr r :: st) M Q = WP d 7 28 [l0] (st) (sR M r 2 q) Q := w_putr mC_7 d7_25 fE_3_18 (by decide +kernel) (by rw [hk]; rfl)
theorem d7_28 : decode cX3_init 28 = .ok (.aload_n 0, 1) := by decide +kernel
theorem k7_28 {d x : Nat} {st : List PV} {M : Mem} {Q : Option PV → Mem → Prop} : WP d 7 28 [some (vr x)] (st) M Q = WP d 7 29 [some (vr x)] (vr x :: st) M Q := w1 mC_7 d7_28 rfl rfl
theorem d7_29 : decode cX3_init 29 = .ok (.bipush 6, 2) := by decide +kernel
theorem k7_29 {d : Nat} {l0 : Option PV} {st : List PV} {M : Mem} {Q : Option PV → Mem → Prop} : WP d 7 29 [l0] (st) M Q = WP d 7 31 [l0] (vi 6 :: st) M Q := w_bipush mC_7 d7_29 (by decide)
theorem d7_31 : decode cX3_init 31 = .ok (.newarray .int, 2) := by decide +kernel
theorem k7_31 {d : Nat} {l0 : Option PV} {st : List PV} {M : Mem} {Q : Option PV → Mem → Prop} {x : Int32} (hx : ¬ x < 0 ∧ ix x ≤ 100000) : WP d 7 31 [l0] (vi x :: st) M Q = WP d 7 33 [l0] (vr (mX M) :: st) (nw M 13 (ix x) (ix x)) Q := w_nwi mC_7 d7_31 hx
theorem d7_33 : decode cX3_init 33 = .ok (.putfield 21, 3) := by decide +kernel
theorem k7_33 {d : Nat} {l0 : Option PV} {st : List PV} {M : Mem} {Q : Option PV → Mem → Prop} {r q : Nat} (hk : mK M r = 3) : WP d 7 33 [l0] (vr q :: vr r :: st) M Q = WP d 7 36 [l0] (st) (sR M r 3 q) Q := w_putr mC_7 d7_33 fE_3_21 (by decide +kernel) (by rw [hk]; rfl)
theorem d7_36 : decode cX3_init 36 = .ok (.return_, 1) := by decide +kernel
theorem k7_36 {d : Nat} {l0 : Option PV} {M : Mem} {Q : Option PV → Mem → Prop} : WP d 7 36 [l0] ([]) M Q = Q none M := w_vret mC_7 d7_36 rfl
theorem d8_0 : decode cX3_isTold 0 = .ok (.aload_n 0, 1) := by decide +kernel
theorem k8_0 {d x : Nat} {st : List PV} {M : Mem} {Q : Option PV → Mem → Prop} : WP d 8 0 [some (vr x)] (st) M Q = WP d 8 1 [some (vr x)] (vr x :: st) M Q := w1 mC_8 d8_0 rfl rfl
theorem d8_1 : decode cX3_isTold 1 = .ok (.getfield 24, 3) := by decide +kernel
theorem k8_1 {d : Nat} {l0 : Option PV} {st : List PV} {M : Mem} {Q : Option PV → Mem → Prop} {r : Nat} (hk : mK M r = 3) : WP d 8 1 [l0] (vr r :: st) M Q = WP d 8 4 [l0] (vi (mI M r 4) :: st) M Q := w_get mC_8 d8_1 fE_3_24 rfl (by rw [hk]; rfl)
theorem d8_4 : decode cX3_isTold 4 = .ok (.ifCond .le 7, 3) := by decide +kernel
theorem k8_4 {d : Nat} {l0 : Option PV} {st : List PV} {M : Mem} {Q : Option PV → Mem → Prop} {x : Int32} : WP d 8 4 [l0] (vi x :: st) M Q = (if x ≤ 0 then WP d 8 11 [l0] (st) M Q else WP d 8 7 [l0] (st) M Q) := w_if_le mC_8 d8_4 (by decide)
theorem d8_7 : decode cX3_isTold 7 = .ok (.iconst 1, 1) := by decide +kernel
theorem k8_7 {d : Nat} {l0 : Option PV} {st : List PV} {M : Mem} {Q : Option PV → Mem → Prop} : WP d 8 7 [l0] (st) M Q = WP d 8 8 [l0] (vi 1 :: st) M Q := w_iconst mC_8 d8_7 (by decide)
theorem d8_8 : decode cX3_isTold 8 = .ok (.goto 4, 3) := by decide +kernel
theorem k8_8 {d : Nat} {l0 : Option PV} {st : List PV} {M : Mem} {Q : Option PV → Mem → Prop} : WP d 8 8 [l0] (st) M Q = WP d 8 12 [l0] (st) M Q := w_goto mC_8 d8_8 (by decide)
theorem d8_11 : decode cX3_isTold 11 = .ok (.iconst 0, 1) := by decide +kernel
theorem k8_11 {d : Nat} {l0 : Option PV} {st : List PV} {M : Mem} {Q : Option PV → Mem → Prop} : WP d 8 11 [l0] (st) M Q = WP d 8 12 [l0] (vi 0 :: st) M Q := w_iconst mC_8 d8_11 (by decide)
theorem d8_12 : decode cX3_isTold 12 = .ok (.ireturn, 1) := by decide +kernel
theorem k8_12 {d : Nat} {l0 : Option PV} {M : Mem} {Q : Option PV → Mem → Prop} {x : Int32} (hx : x = 0 ∨ x = 1) : WP d 8 12 [l0] ([vi x]) M Q = Q (some (vi x)) M := w_zret mC_8 d8_12 rfl hx
theorem d9_0 : decode cX3_read 0 = .ok (.aload_n 0, 1) := by decide +kernel
theorem k9_0 {d x : Nat} {l1 l2 l3 l4 : Option PV} {st : List PV} {M : Mem} {Q : Option PV → Mem → Prop} : WP d 9 0 [some (vr x), l1, l2, l3, l4] (st) M Q = WP d 9 1 [some (vr x), l1, l2, l3, l4] (vr x :: st) M Q := w1 mC_9 d9_0 rfl rfl
theorem d9_1 : decode cX3_read 1 = .ok (.aload_n 1, 1) := by decide +kernel
theorem k9_1 {d x : Nat} {l0 l2 l3 l4 : Option PV} {st : List PV} {M : Mem} {Q : Option PV → Mem → Prop} : WP d 9 1 [l0, some (vr x), l2, l3, l4] (st) M Q = WP d 9 2 [l0, some (vr x), l2, l3, l4] (vr x :: st) M Q := w1 mC_9 d9_1 rfl rfl
theorem d9_2 : decode cX3_read 2 = .ok (.putfield 28, 3) := by decide +kernel
theorem k9_2 {d : Nat} {l0 l1 l2 l3 l4 : Option PV} {st : List PV} {M : Mem} {Q : Option PV → Mem → Prop} {r q : Nat} (hk : mK M r = 3) : WP d 9 2 [l0, l1, l2, l3, l4] (vr q :: vr r :: st) M Q = WP d 9 5 [l0, l1, l2, l3, l4] (st) (sR M r 6 q) Q := w_putr mC_9 d9_2 fE_3_28 (by decide +kernel) (by rw [hk]; rfl)
theorem d9_5 : decode cX3_read 5 = .ok (.aload_n 0, 1) := by decide +kernel
theorem k9_5 {d x : Nat} {l1 l2 l3 l4 : Option PV} {st : List PV} {M : Mem} {Q : Option PV → Mem → Prop} : WP d 9 5 [some (vr x), l1, l2, l3, l4] (st) M Q = WP d 9 6 [some (vr x), l1, l2, l3, l4] (vr x :: st) M Q := w1 mC_9 d9_5 rfl rfl
theorem d9_6 : decode cX3_read 6 = .ok (.iload_n 2, 1) := by decide +kernel
theorem k9_6 {d : Nat} {x : Int32} {l0 l1 l3 l4 : Option PV} {st : List PV} {M : Mem} {Q : Option PV → Mem → Prop} : WP d 9 6 [l0, l1, some (vi x), l3, l4] (st) M Q = WP d 9 7 [l0, l1, some (vi x), l3, l4] (vi x :: st) M Q := w1 mC_9 d9_6 rfl rfl
theorem d9_7 : decode cX3_read 7 = .ok (.aload_n 1, 1) := by decide +kernel
theorem k9_7 {d x : Nat} {l0 l2 l3 l4 : Option PV} {st : List PV} {M : Mem} {Q : Option PV → Mem → Prop} : WP d 9 7 [l0, some (vr x), l2, l3, l4] (st) M Q = WP d 9 8 [l0, some (vr x), l2, l3, l4] (vr x :: st) M Q := w1 mC_9 d9_7 rfl rfl
theorem d9_8 : decode cX3_read 8 = .ok (.arraylength, 1) := by decide +kernel
theorem k9_8 {d : Nat} {l0 l1 l2 l3 l4 : Option PV} {st : List PV} {M : Mem} {Q : Option PV → Mem → Prop} {r : Nat} (hk : 13 ≤ mK M r ∧ mK M r ≤ 17) (_h1 : r ≠ 1) : WP d 9 8 [l0, l1, l2, l3, l4] (vr r :: st) M Q = WP d 9 9 [l0, l1, l2, l3, l4] (vi (Int32.ofNat (mN M r)) :: st) M Q := w_alen mC_9 d9_8 ⟨hk.1, Nat.le_trans hk.2 (by decide)⟩
theorem d9_9 : decode cX3_read 9 = .ok (.invokestatic 31, 3) := by decide +kernel
theorem k9_9 {d : Nat} {l0 l1 l2 l3 l4 : Option PV} {st : List PV} {M : Mem} {Q : Option PV → Mem → Prop} {x y : Int32} (hl : szL st ≤ 8) : WP d 9 9 [l0, l1, l2, l3, l4] (vi y :: vi x :: st) M Q = WP d 9 12 [l0, l1, l2, l3, l4] (vi (if y < x then y else x) :: st) M Q := w_min mC_9 d9_9 rfl rfl rfl hl
theorem d9_12 : decode cX3_read 12 = .ok (.putfield 37, 3) := by decide +kernel
theorem k9_12 {d : Nat} {l0 l1 l2 l3 l4 : Option PV} {st : List PV} {M : Mem} {Q : Option PV → Mem → Prop} {r : Nat} {x : Int32} (hk : mK M r = 3) : WP d 9 12 [l0, l1, l2, l3, l4] (vi x :: vr r :: st) M Q = WP d 9 15 [l0, l1, l2, l3, l4] (st) (sI M r 7 x) Q := w_put mC_9 d9_12 fE_3_37 (by decide +kernel) (by rw [hk]; rfl)
theorem d9_15 : decode cX3_read 15 = .ok (.aload_n 0, 1) := by decide +kernel
theorem k9_15 {d x : Nat} {l1 l2 l3 l4 : Option PV} {st : List PV} {M : Mem} {Q : Option PV → Mem → Prop} : WP d 9 15 [some (vr x), l1, l2, l3, l4] (st) M Q = WP d 9 16 [some (vr x), l1, l2, l3, l4] (vr x :: st) M Q := w1 mC_9 d9_15 rfl rfl
theorem d9_16 : decode cX3_read 16 = .ok (.iconst 0, 1) := by decide +kernel
theorem k9_16 {d : Nat} {l0 l1 l2 l3 l4 : Option PV} {st : List PV} {M : Mem} {Q : Option PV → Mem → Prop} : WP d 9 16 [l0, l1, l2, l3, l4] (st) M Q = WP d 9 17 [l0, l1, l2, l3, l4] (vi 0 :: st) M Q := w_iconst mC_9 d9_16 (by decide)
theorem d9_17 : decode cX3_read 17 = .ok (.putfield 40, 3) := by decide +kernel
theorem k9_17 {d : Nat} {l0 l1 l2 l3 l4 : Option PV} {st : List PV} {M : Mem} {Q : Option PV → Mem → Prop} {r : Nat} {x : Int32} (hk : mK M r = 3) : WP d 9 17 [l0, l1, l2, l3, l4] (vi x :: vr r :: st) M Q = WP d 9 20 [l0, l1, l2, l3, l4] (st) (sI M r 8 x) Q := w_put mC_9 d9_17 fE_3_40 (by decide +kernel) (by rw [hk]; rfl)
theorem d9_20 : decode cX3_read 20 = .ok (.aload_n 0, 1) := by decide +kernel
theorem k9_20 {d x : Nat} {l1 l2 l3 l4 : Option PV} {st : List PV} {M : Mem} {Q : Option PV → Mem → Prop} : WP d 9 20 [some (vr x), l1, l2, l3, l4] (st) M Q = WP d 9 21 [some (vr x), l1, l2, l3, l4] (vr x :: st) M Q := w1 mC_9 d9_20 rfl rfl
theorem d9_21 : decode cX3_read 21 = .ok (.iconst 0, 1) := by decide +kernel
theorem k9_21 {d : Nat} {l0 l1 l2 l3 l4 : Option PV} {st : List PV} {M : Mem} {Q : Option PV → Mem → Prop} : WP d 9 21 [l0, l1, l2, l3, l4] (st) M Q = WP d 9 22 [l0, l1, l2, l3, l4] (vi 0 :: st) M Q := w_iconst mC_9 d9_21 (by decide)
theorem d9_22 : decode cX3_read 22 = .ok (.putfield 24, 3) := by decide +kernel
theorem k9_22 {d : Nat} {l0 l1 l2 l3 l4 : Option PV} {st : List PV} {M : Mem} {Q : Option PV → Mem → Prop} {r : Nat} {x : Int32} (hk : mK M r = 3) : WP d 9 22 [l0, l1, l2, l3, l4] (vi x :: vr r :: st) M Q = WP d 9 25 [l0, l1, l2, l3, l4] (st) (sI M r 4 x) Q := w_put mC_9 d9_22 fE_3_24 (by decide +kernel) (by rw [hk]; rfl)
theorem d9_25 : decode cX3_read 25 = .ok (.aload_n 0, 1) := by decide +kernel
theorem k9_25 {d x : Nat} {l1 l2 l3 l4 : Option PV} {st : List PV} {M : Mem} {Q : Option PV → Mem → Prop} : WP d 9 25 [some (vr x), l1, l2, l3, l4] (st) M Q = WP d 9 26 [some (vr x), l1, l2, l3, l4] (vr x :: st) M Q := w1 mC_9 d9_25 rfl rfl
theorem d9_26 : decode cX3_read 26 = .ok (.invokevirtual 43, 3) := by decide +kernel
theorem k9_26 {d : Nat} {l0 l1 l2 l3 l4 : Option PV} {st : List PV} {M : Mem} {Q : Option PV → Mem → Prop} {r : Nat} (hl : szL st ≤ 8) (hk : mK M r = 3) : WP (d + 1) 9 26 [l0, l1, l2, l3, l4] (vr r :: st) M Q = WP d 10 0 [some (vr r), none, none] [] M (fun v M' => WP (d + 1) 9 29 [l0, l1, l2, l3, l4] (psh v st) M' Q) := w_callV mC_9 d9_26 (ci := 3) rfl rfl rfl (Nat.le_of_ble_eq_true rfl) (by decide) rfl hl (Or.inl hk)
theorem d9_29 : decode cX3_read 29 = .ok (.istore_n 3, 1) := by decide +kernel
theorem k9_29 {d : Nat} {l0 l1 l2 l3 l4 : Option PV} {st : List PV} {M : Mem} {Q : Option PV → Mem → Prop} {x : Int32} : WP d 9 29 [l0, l1, l2, l3, l4] (vi x :: st) M Q = WP d 9 30 [l0, l1, l2, some (vi x), l4] (st) M Q := w1 mC_9 d9_29 rfl rfl
theorem d9_30 : decode cX3_read 30 = .ok (.iconst 1, 1) := by decide +kernel
theorem k9_30 {d : Nat} {l0 l1 l2 l3 l4 : Option PV} {st : List PV} {M : Mem} {Q : Option PV → Mem → Prop} : WP d 9 30 [l0, l1, l2, l3, l4] (st) M Q = WP d 9 31 [l0, l1, l2, l3, l4] (vi 1 :: st) M Q := w_iconst mC_9 d9_30 (by decide)
theorem d9_31 : decode cX3_read 31 = .ok (.istore 4, 2) := by decide +kernel
theorem k9_31 {d : Nat} {l0 l1 l2 l3 l4 : Option PV} {st : List PV} {M : Mem} {Q : Option PV → Mem → Prop} {x : Int32} : WP d 9 31 [l0, l1, l2, l3, l4] (vi x :: st) M Q = WP d 9 33 [l0, l1, l2, l3, some (vi x)] (st) M Q := w1 mC_9 d9_31 rfl rfl
theorem d9_33 : decode cX3_read 33 = .ok (.iload 4, 2) := by decide +kernel
theorem k9_33 {d : Nat} {x : Int32} {l0 l1 l2 l3 : Option PV} {st : List PV} {M : Mem} {Q : Option PV → Mem → Prop} : WP d 9 33 [l0, l1, l2, l3, some (vi x)] (st) M Q = WP d 9 35 [l0, l1, l2, l3, some (vi x)] (vi x :: st) M Q := w1 mC_9 d9_33 rfl rfl
theorem d9_35 : decode cX3_read 35 = .ok (.bipush 120, 2) := by decide +kernel
theorem k9_35 {d : Nat} {l0 l1 l2 l3 l4 : Option PV} {st : List PV} {M : Mem} {Q : Option PV → Mem → Prop} : WP d 9 35 [l0, l1, l2, l3, l4] (st) M Q = WP d 9 37 [l0, l1, l2, l3, l4] (vi 120 :: st) M Q := w_bipush mC_9 d9_35 (by decide)
theorem d9_37 : decode cX3_read 37 = .ok (.if_icmp .ge 27, 3) := by decide +kernel
theorem k9_37 {d : Nat} {l0 l1 l2 l3 l4 : Option PV} {st : List PV} {M : Mem} {Q : Option PV → Mem → Prop} {x y : Int32} : WP d 9 37 [l0, l1, l2, l3, l4] (vi y :: vi x :: st) M Q = (if y ≤ x then WP d 9 64 [l0, l1, l2, l3, l4] (st) M Q else WP d 9 40 [l0, l1, l2, l3, l4] (st) M Q) := w_ic_ge mC_9 d9_37 (by decide)
theorem d9_40 : decode cX3_read 40 = .ok (.iload_n 3, 1) := by decide +kernel
theorem k9_40 {d : Nat} {x : Int32} {l0 l1 l2 l4 : Option PV} {st : List PV} {M : Mem} {Q : Option PV → Mem → Prop} : WP d 9 40 [l0, l1, l2, some (vi x), l4] (st) M Q = WP d 9 41 [l0, l1, l2, some (vi x), l4] (vi x :: st) M Q := w1 mC_9 d9_40 rfl rfl
theorem d9_41 : decode cX3_read 41 = .ok (.ifCond .eq 23, 3) := by decide +kernel
theorem k9_41 {d : Nat} {l0 l1 l2 l3 l4 : Option PV} {st : List PV} {M : Mem} {Q : Option PV → Mem → Prop} {x : Int32} : WP d 9 41 [l0, l1, l2, l3, l4] (vi x :: st) M Q = (if x = 0 then WP d 9 64 [l0, l1, l2, l3, l4] (st) M Q else WP d 9 44 [l0, l1, l2, l3, l4] (st) M Q) := w_if_eq mC_9 d9_41 (by decide)
theorem d9_44 : decode cX3_read 44 = .ok (.aload_n 0, 1) := by decide +kernel
theorem k9_44 {d x : Nat} {l1 l2 l3 l4 : Option PV} {st : List PV} {M : Mem} {Q : Option PV → Mem → Prop} : WP d 9 44 [some (vr x), l1, l2, l3, l4] (st) M Q = WP d 9 45 [some (vr x), l1, l2, l3, l4] (vr x :: st) M Q := w1 mC_9 d9_44 rfl rfl
theorem d9_45 : decode cX3_read 45 = .ok (.bipush 59, 2) := by decide +kernel
theorem k9_45 {d : Nat} {l0 l1 l2 l3 l4 : Option PV} {st : List PV} {M : Mem} {Q : Option PV → Mem → Prop} : WP d 9 45 [l0, l1, l2, l3, l4] (st) M Q = WP d 9 47 [l0, l1, l2, l3, l4] (vi 59 :: st) M Q := w_bipush mC_9 d9_45 (by decide)
theorem d9_47 : decode cX3_read 47 = .ok (.invokevirtual 47, 3) := by decide +kernel
theorem k9_47 {d : Nat} {l0 l1 l2 l3 l4 : Option PV} {st : List PV} {M : Mem} {Q : Option PV → Mem → Prop} {a0 : Int32} {r : Nat} (hl : szL st ≤ 8) (hk : mK M r = 3) : WP (d + 1) 9 47 [l0, l1, l2, l3, l4] (vi a0 :: vr r :: st) M Q = WP d 17 0 [some (vr r), some (vi a0)] [] M (fun v M' => WP (d + 1) 9 50 [l0, l1, l2, l3, l4] (psh v st) M' Q) := w_callV mC_9 d9_47 (ci := 3) rfl rfl rfl (Nat.le_of_ble_eq_true rfl) (by decide) rfl hl (Or.inl hk)
theorem d9_50 : decode cX3_read 50 = .ok (.ifCond .eq 14, 3) := by decide +kernel
theorem k9_50 {d : Nat} {l0 l1 l2 l3 l4 : Option PV} {st : List PV} {M : Mem} {Q : Option PV → Mem → Prop} {x : Int32} : WP d 9 50 [l0, l1, l2, l3, l4] (vi x :: st) M Q = (if x = 0 then WP d 9 64 [l0, l1, l2, l3, l4] (st) M Q else WP d 9 53 [l0, l1, l2, l3, l4] (st) M Q) := w_if_eq mC_9 d9_50 (by decide)
theorem d9_53 : decode cX3_read 53 = .ok (.aload_n 0, 1) := by decide +kernel
theorem k9_53 {d x : Nat} {l1 l2 l3 l4 : Option PV} {st : List PV} {M : Mem} {Q : Option PV → Mem → Prop} : WP d 9 53 [some (vr x), l1, l2, l3, l4] (st) M Q = WP d 9 54 [some (vr x), l1, l2, l3, l4] (vr x :: st) M Q := w1 mC_9 d9_53 rfl rfl
theorem d9_54 : decode cX3_read 54 = .ok (.invokevirtual 43, 3) := by decide +kernel
theorem k9_54 {d : Nat} {l0 l1 l2 l3 l4 : Option PV} {st : List PV} {M : Mem} {Q : Option PV → Mem → Prop} {r : Nat} (hl : szL st ≤ 8) (hk : mK M r = 3) : WP (d + 1) 9 54 [l0, l1, l2, l3, l4] (vr r :: st) M Q = WP d 10 0 [some (vr r), none, none] [] M (fun v M' => WP (d + 1) 9 57 [l0, l1, l2, l3, l4] (psh v st) M' Q) := w_callV mC_9 d9_54 (ci := 3) rfl rfl rfl (Nat.le_of_ble_eq_true rfl) (by decide) rfl hl (Or.inl hk)
theorem d9_57 : decode cX3_read 57 = .ok (.istore_n 3, 1) := by decide +kernel
theorem k9_57 {d : Nat} {l0 l1 l2 l3 l4 : Option PV} {st : List PV} {M : Mem} {Q : Option PV → Mem → Prop} {x : Int32} : WP d 9 57 [l0, l1, l2, l3, l4] (vi x :: st) M Q = WP d 9 58 [l0, l1, l2, some (vi x), l4] (st) M Q := w1 mC_9 d9_57 rfl rfl
theorem d9_58 : decode cX3_read 58 = .ok (.iinc 4 1, 3) := by decide +kernel
theorem k9_58 {d : Nat} {x : Int32} {l0 l1 l2 l3 : Option PV} {st : List PV} {M : Mem} {Q : Option PV → Mem → Prop} : WP d 9 58 [l0, l1, l2, l3, some (vi x)] (st) M Q = WP d 9 61 [l0, l1, l2, l3, some (vi (x + 1))] (st) M Q := w_iinc mC_9 d9_58 rfl (by decide) rfl
theorem d9_61 : decode cX3_read 61 = .ok (.goto (-28), 3) := by decide +kernel
theorem k9_61 {d : Nat} {l0 l1 l2 l3 l4 : Option PV} {st : List PV} {M : Mem} {Q : Option PV → Mem → Prop} : WP d 9 61 [l0, l1, l2, l3, l4] (st) M Q = WP d 9 33 [l0, l1, l2, l3, l4] (st) M Q := w_goto mC_9 d9_61 (by decide)
theorem d9_64 : decode cX3_read 64 = .ok (.iload_n 3, 1) := by decide +kernel
theorem k9_64 {d : Nat} {x : Int32} {l0 l1 l2 l4 : Option PV} {st : List PV} {M : Mem} {Q : Option PV → Mem → Prop} : WP d 9 64 [l0, l1, l2, some (vi x), l4] (st) M Q = WP d 9 65 [l0, l1, l2, some (vi x), l4] (vi x :: st) M Q := w1 mC_9 d9_64 rfl rfl
theorem d9_65 : decode cX3_read 65 = .ok (.ifCond .eq 18, 3) := by decide +kernel
theorem k9_65 {d : Nat} {l0 l1 l2 l3 l4 : Option PV} {st : List PV} {M : Mem} {Q : Option PV → Mem → Prop} {x : Int32} : WP d 9 65 [l0, l1, l2, l3, l4] (vi x :: st) M Q = (if x = 0 then WP d 9 83 [l0, l1, l2, l3, l4] (st) M Q else WP d 9 68 [l0, l1, l2, l3, l4] (st) M Q) := w_if_eq mC_9 d9_65 (by decide)
theorem d9_68 : decode cX3_read 68 = .ok (.aload_n 0, 1) := by decide +kernel
theorem k9_68 {d x : Nat} {l1 l2 l3 l4 : Option PV} {st : List PV} {M : Mem} {Q : Option PV → Mem → Prop} : WP d 9 68 [some (vr x), l1, l2, l3, l4] (st) M Q = WP d 9 69 [some (vr x), l1, l2, l3, l4] (vr x :: st) M Q := w1 mC_9 d9_68 rfl rfl
theorem d9_69 : decode cX3_read 69 = .ok (.getfield 40, 3) := by decide +kernel
theorem k9_69 {d : Nat} {l0 l1 l2 l3 l4 : Option PV} {st : List PV} {M : Mem} {Q : Option PV → Mem → Prop} {r : Nat} (hk : mK M r = 3) : WP d 9 69 [l0, l1, l2, l3, l4] (vr r :: st) M Q = WP d 9 72 [l0, l1, l2, l3, l4] (vi (mI M r 8) :: st) M Q := w_get mC_9 d9_69 fE_3_40 rfl (by rw [hk]; rfl)
theorem d9_72 : decode cX3_read 72 = .ok (.aload_n 0, 1) := by decide +kernel
theorem k9_72 {d x : Nat} {l1 l2 l3 l4 : Option PV} {st : List PV} {M : Mem} {Q : Option PV → Mem → Prop} : WP d 9 72 [some (vr x), l1, l2, l3, l4] (st) M Q = WP d 9 73 [some (vr x), l1, l2, l3, l4] (vr x :: st) M Q := w1 mC_9 d9_72 rfl rfl
theorem d9_73 : decode cX3_read 73 = .ok (.getfield 37, 3) := by decide +kernel
theorem k9_73 {d : Nat} {l0 l1 l2 l3 l4 : Option PV} {st : List PV} {M : Mem} {Q : Option PV → Mem → Prop} {r : Nat} (hk : mK M r = 3) : WP d 9 73 [l0, l1, l2, l3, l4] (vr r :: st) M Q = WP d 9 76 [l0, l1, l2, l3, l4] (vi (mI M r 7) :: st) M Q := w_get mC_9 d9_73 fE_3_37 rfl (by rw [hk]; rfl)
theorem d9_76 : decode cX3_read 76 = .ok (.if_icmp .ne 7, 3) := by decide +kernel
theorem k9_76 {d : Nat} {l0 l1 l2 l3 l4 : Option PV} {st : List PV} {M : Mem} {Q : Option PV → Mem → Prop} {x y : Int32} : WP d 9 76 [l0, l1, l2, l3, l4] (vi y :: vi x :: st) M Q = (if x = y then WP d 9 79 [l0, l1, l2, l3, l4] (st) M Q else WP d 9 83 [l0, l1, l2, l3, l4] (st) M Q) := w_ic_ne mC_9 d9_76 (by decide)
theorem d9_79 : decode cX3_read 79 = .ok (.iconst (-1), 1) := by decide +kernel
theorem k9_79 {d : Nat} {l0 l1 l2 l3 l4 : Option PV} {st : List PV} {M : Mem} {Q : Option PV → Mem → Prop} : WP d 9 79 [l0, l1, l2, l3, l4] (st) M Q = WP d 9 80 [l0, l1, l2, l3, l4] (vi (-1) :: st) M Q := w_iconst mC_9 d9_79 (by decide)
theorem d9_80 : decode cX3_read 80 = .ok (.goto 7, 3) := by decide +kernel
theorem k9_80 {d : Nat} {l0 l1 l2 l3 l4 : Option PV} {st : List PV} {M : Mem} {Q : Option PV → Mem → Prop} : WP d 9 80 [l0, l1, l2, l3, l4] (st) M Q = WP d 9 87 [l0, l1, l2, l3, l4] (st) M Q := w_goto mC_9 d9_80 (by decide)
theorem d9_83 : decode cX3_read 83 = .ok (.aload_n 0, 1) := by decide +kernel
theorem k9_83 {d x : Nat} {l1 l2 l3 l4 : Option PV} {st : List PV} {M : Mem} {Q : Option PV → Mem → Prop} : WP d 9 83 [some (vr x), l1, l2, l3, l4] (st) M Q = WP d 9 84 [some (vr x), l1, l2, l3, l4] (vr x :: st) M Q := w1 mC_9 d9_83 rfl rfl
theorem d9_84 : decode cX3_read 84 = .ok (.getfield 40, 3) := by decide +kernel
theorem k9_84 {d : Nat} {l0 l1 l2 l3 l4 : Option PV} {st : List PV} {M : Mem} {Q : Option PV → Mem → Prop} {r : Nat} (hk : mK M r = 3) : WP d 9 84 [l0, l1, l2, l3, l4] (vr r :: st) M Q = WP d 9 87 [l0, l1, l2, l3, l4] (vi (mI M r 8) :: st) M Q := w_get mC_9 d9_84 fE_3_40 rfl (by rw [hk]; rfl)
theorem d9_87 : decode cX3_read 87 = .ok (.ireturn, 1) := by decide +kernel
theorem k9_87 {d : Nat} {l0 l1 l2 l3 l4 : Option PV} {M : Mem} {Q : Option PV → Mem → Prop} {x : Int32} : WP d 9 87 [l0, l1, l2, l3, l4] ([vi x]) M Q = Q (some (vi x)) M := w_iret mC_9 d9_87 rfl
theorem d10_0 : decode cX3_line 0 = .ok (.aload_n 0, 1) := by decide +kernel
theorem k10_0 {d x : Nat} {l1 l2 : Option PV} {st : List PV} {M : Mem} {Q : Option PV → Mem → Prop} : WP d 10 0 [some (vr x), l1, l2] (st) M Q = WP d 10 1 [some (vr x), l1, l2] (vr x :: st) M Q := w1 mC_10 d10_0 rfl rfl
theorem d10_1 : decode cX3_line 1 = .ok (.iconst 0, 1) := by decide +kernel
theorem k10_1 {d : Nat} {l0 l1 l2 : Option PV} {st : List PV} {M : Mem} {Q : Option PV → Mem → Prop} : WP d 10 1 [l0, l1, l2] (st) M Q = WP d 10 2 [l0, l1, l2] (vi 0 :: st) M Q := w_iconst mC_10 d10_1 (by decide)
theorem d10_2 : decode cX3_line 2 = .ok (.iconst 0, 1) := by decide +kernel
theorem k10_2 {d : Nat} {l0 l1 l2 : Option PV} {st : List PV} {M : Mem} {Q : Option PV → Mem → Prop} : WP d 10 2 [l0, l1, l2] (st) M Q = WP d 10 3 [l0, l1, l2] (vi 0 :: st) M Q := w_iconst mC_10 d10_2 (by decide)
theorem d10_3 : decode cX3_line 3 = .ok (.invokevirtual 51, 3) := by decide +kernel
theorem k10_3 {d : Nat} {l0 l1 l2 : Option PV} {st : List PV} {M : Mem} {Q : Option PV → Mem → Prop} {a0 a1 : Int32} {r : Nat} (hl : szL st ≤ 8) (hk : mK M r = 3) : WP (d + 1) 10 3 [l0, l1, l2] (vi a1 :: vi a0 :: vr r :: st) M Q = WP d 11 0 [some (vr r), some (vi a0), some (vi a1), none, none, none, none] [] M (fun v M' => WP (d + 1) 10 6 [l0, l1, l2] (psh v st) M' Q) := w_callV mC_10 d10_3 (ci := 3) rfl rfl rfl (Nat.le_of_ble_eq_true rfl) (by decide) rfl hl (Or.inl hk)
theorem d10_6 : decode cX3_line 6 = .ok (.istore_n 1, 1) := by decide +kernel
theorem k10_6 {d : Nat} {l0 l1 l2 : Option PV} {st : List PV} {M : Mem} {Q : Option PV → Mem → Prop} {x : Int32} : WP d 10 6 [l0, l1, l2] (vi x :: st) M Q = WP d 10 7 [l0, some (vi x), l2] (st) M Q := w1 mC_10 d10_6 rfl rfl
theorem d10_7 : decode cX3_line 7 = .ok (.iload_n 1, 1) := by decide +kernel
theorem k10_7 {d : Nat} {x : Int32} {l0 l2 : Option PV} {st : List PV} {M : Mem} {Q : Option PV → Mem → Prop} : WP d 10 7 [l0, some (vi x), l2] (st) M Q = WP d 10 8 [l0, some (vi x), l2] (vi x :: st) M Q := w1 mC_10 d10_7 rfl rfl
theorem d10_8 : decode cX3_line 8 = .ok (.ifCond .eq 68, 3) := by decide +kernel
theorem k10_8 {d : Nat} {l0 l1 l2 : Option PV} {st : List PV} {M : Mem} {Q : Option PV → Mem → Prop} {x : Int32} : WP d 10 8 [l0, l1, l2] (vi x :: st) M Q = (if x = 0 then WP d 10 76 [l0, l1, l2] (st) M Q else WP d 10 11 [l0, l1, l2] (st) M Q) := w_if_eq mC_10 d10_8 (by decide)
theorem d10_11 : decode cX3_line 11 = .ok (.aload_n 0, 1) := by decide +kernel
theorem k10_11 {d x : Nat} {l1 l2 : Option PV} {st : List PV} {M : Mem} {Q : Option PV → Mem → Prop} : WP d 10 11 [some (vr x), l1, l2] (st) M Q = WP d 10 12 [some (vr x), l1, l2] (vr x :: st) M Q := w1 mC_10 d10_11 rfl rfl
theorem d10_12 : decode cX3_line 12 = .ok (.bipush 63, 2) := by decide +kernel
theorem k10_12 {d : Nat} {l0 l1 l2 : Option PV} {st : List PV} {M : Mem} {Q : Option PV → Mem → Prop} : WP d 10 12 [l0, l1, l2] (st) M Q = WP d 10 14 [l0, l1, l2] (vi 63 :: st) M Q := w_bipush mC_10 d10_12 (by decide)
theorem d10_14 : decode cX3_line 14 = .ok (.invokevirtual 47, 3) := by decide +kernel
theorem k10_14 {d : Nat} {l0 l1 l2 : Option PV} {st : List PV} {M : Mem} {Q : Option PV → Mem → Prop} {a0 : Int32} {r : Nat} (hl : szL st ≤ 8) (hk : mK M r = 3) : WP (d + 1) 10 14 [l0, l1, l2] (vi a0 :: vr r :: st) M Q = WP d 17 0 [some (vr r), some (vi a0)] [] M (fun v M' => WP (d + 1) 10 17 [l0, l1, l2] (psh v st) M' Q) := w_callV mC_10 d10_14 (ci := 3) rfl rfl rfl (Nat.le_of_ble_eq_true rfl) (by decide) rfl hl (Or.inl hk)
theorem d10_17 : decode cX3_line 17 = .ok (.ifCond .eq 59, 3) := by decide +kernel
theorem k10_17 {d : Nat} {l0 l1 l2 : Option PV} {st : List PV} {M : Mem} {Q : Option PV → Mem → Prop} {x : Int32} : WP d 10 17 [l0, l1, l2] (vi x :: st) M Q = (if x = 0 then WP d 10 76 [l0, l1, l2] (st) M Q else WP d 10 20 [l0, l1, l2] (st) M Q) := w_if_eq mC_10 d10_17 (by decide)
theorem d10_20 : decode cX3_line 20 = .ok (.aload_n 0, 1) := by decide +kernel
theorem k10_20 {d x : Nat} {l1 l2 : Option PV} {st : List PV} {M : Mem} {Q : Option PV → Mem → Prop} : WP d 10 20 [some (vr x), l1, l2] (st) M Q = WP d 10 21 [some (vr x), l1, l2] (vr x :: st) M Q := w1 mC_10 d10_20 rfl rfl
theorem d10_21 : decode cX3_line 21 = .ok (.getfield 24, 3) := by decide +kernel
theorem k10_21 {d : Nat} {l0 l1 l2 : Option PV} {st : List PV} {M : Mem} {Q : Option PV → Mem → Prop} {r : Nat} (hk : mK M r = 3) : WP d 10 21 [l0, l1, l2] (vr r :: st) M Q = WP d 10 24 [l0, l1, l2] (vi (mI M r 4) :: st) M Q := w_get mC_10 d10_21 fE_3_24 rfl (by rw [hk]; rfl)
theorem d10_24 : decode cX3_line 24 = .ok (.istore_n 2, 1) := by decide +kernel
theorem k10_24 {d : Nat} {l0 l1 l2 : Option PV} {st : List PV} {M : Mem} {Q : Option PV → Mem → Prop} {x : Int32} : WP d 10 24 [l0, l1, l2] (vi x :: st) M Q = WP d 10 25 [l0, l1, some (vi x)] (st) M Q := w1 mC_10 d10_24 rfl rfl
theorem d10_25 : decode cX3_line 25 = .ok (.aload_n 0, 1) := by decide +kernel
theorem k10_25 {d x : Nat} {l1 l2 : Option PV} {st : List PV} {M : Mem} {Q : Option PV → Mem → Prop} : WP d 10 25 [some (vr x), l1, l2] (st) M Q = WP d 10 26 [some (vr x), l1, l2] (vr x :: st) M Q := w1 mC_10 d10_25 rfl rfl
theorem d10_26 : decode cX3_line 26 = .ok (.bipush 63, 2) := by decide +kernel
theorem k10_26 {d : Nat} {l0 l1 l2 : Option PV} {st : List PV} {M : Mem} {Q : Option PV → Mem → Prop} : WP d 10 26 [l0, l1, l2] (st) M Q = WP d 10 28 [l0, l1, l2] (vi 63 :: st) M Q := w_bipush mC_10 d10_26 (by decide)
theorem d10_28 : decode cX3_line 28 = .ok (.iconst 0, 1) := by decide +kernel
theorem k10_28 {d : Nat} {l0 l1 l2 : Option PV} {st : List PV} {M : Mem} {Q : Option PV → Mem → Prop} : WP d 10 28 [l0, l1, l2] (st) M Q = WP d 10 29 [l0, l1, l2] (vi 0 :: st) M Q := w_iconst mC_10 d10_28 (by decide)
theorem d10_29 : decode cX3_line 29 = .ok (.invokevirtual 55, 3) := by decide +kernel
theorem k10_29 {d : Nat} {l0 l1 l2 : Option PV} {st : List PV} {M : Mem} {Q : Option PV → Mem → Prop} {a0 a1 : Int32} {r : Nat} (hl : szL st ≤ 8) (hk : mK M r = 3) : WP (d + 1) 10 29 [l0, l1, l2] (vi a1 :: vi a0 :: vr r :: st) M Q = WP d 18 0 [some (vr r), some (vi a0), some (vi a1)] [] M (fun v M' => WP (d + 1) 10 32 [l0, l1, l2] (psh v st) M' Q) := w_callV mC_10 d10_29 (ci := 3) rfl rfl rfl (Nat.le_of_ble_eq_true rfl) (by decide) rfl hl (Or.inl hk)
theorem d10_32 : decode cX3_line 32 = .ok (.ifCond .eq 26, 3) := by decide +kernel
theorem k10_32 {d : Nat} {l0 l1 l2 : Option PV} {st : List PV} {M : Mem} {Q : Option PV → Mem → Prop} {x : Int32} : WP d 10 32 [l0, l1, l2] (vi x :: st) M Q = (if x = 0 then WP d 10 58 [l0, l1, l2] (st) M Q else WP d 10 35 [l0, l1, l2] (st) M Q) := w_if_eq mC_10 d10_32 (by decide)
theorem d10_35 : decode cX3_line 35 = .ok (.aload_n 0, 1) := by decide +kernel
theorem k10_35 {d x : Nat} {l1 l2 : Option PV} {st : List PV} {M : Mem} {Q : Option PV → Mem → Prop} : WP d 10 35 [some (vr x), l1, l2] (st) M Q = WP d 10 36 [some (vr x), l1, l2] (vr x :: st) M Q := w1 mC_10 d10_35 rfl rfl
theorem d10_36 : decode cX3_line 36 = .ok (.iconst 0, 1) := by decide +kernel
theorem k10_36 {d : Nat} {l0 l1 l2 : Option PV} {st : List PV} {M : Mem} {Q : Option PV → Mem → Prop} : WP d 10 36 [l0, l1, l2] (st) M Q = WP d 10 37 [l0, l1, l2] (vi 0 :: st) M Q := w_iconst mC_10 d10_36 (by decide)
theorem d10_37 : decode cX3_line 37 = .ok (.iconst 0, 1) := by decide +kernel
theorem k10_37 {d : Nat} {l0 l1 l2 : Option PV} {st : List PV} {M : Mem} {Q : Option PV → Mem → Prop} : WP d 10 37 [l0, l1, l2] (st) M Q = WP d 10 38 [l0, l1, l2] (vi 0 :: st) M Q := w_iconst mC_10 d10_37 (by decide)
theorem d10_38 : decode cX3_line 38 = .ok (.invokevirtual 51, 3) := by decide +kernel
theorem k10_38 {d : Nat} {l0 l1 l2 : Option PV} {st : List PV} {M : Mem} {Q : Option PV → Mem → Prop} {a0 a1 : Int32} {r : Nat} (hl : szL st ≤ 8) (hk : mK M r = 3) : WP (d + 1) 10 38 [l0, l1, l2] (vi a1 :: vi a0 :: vr r :: st) M Q = WP d 11 0 [some (vr r), some (vi a0), some (vi a1), none, none, none, none] [] M (fun v M' => WP (d + 1) 10 41 [l0, l1, l2] (psh v st) M' Q) := w_callV mC_10 d10_38 (ci := 3) rfl rfl rfl (Nat.le_of_ble_eq_true rfl) (by decide) rfl hl (Or.inl hk)
theorem d10_41 : decode cX3_line 41 = .ok (.ifCond .eq 17, 3) := by decide +kernel
theorem k10_41 {d : Nat} {l0 l1 l2 : Option PV} {st : List PV} {M : Mem} {Q : Option PV → Mem → Prop} {x : Int32} : WP d 10 41 [l0, l1, l2] (vi x :: st) M Q = (if x = 0 then WP d 10 58 [l0, l1, l2] (st) M Q else WP d 10 44 [l0, l1, l2] (st) M Q) := w_if_eq mC_10 d10_41 (by decide)
theorem d10_44 : decode cX3_line 44 = .ok (.aload_n 0, 1) := by decide +kernel
theorem k10_44 {d x : Nat} {l1 l2 : Option PV} {st : List PV} {M : Mem} {Q : Option PV → Mem → Prop} : WP d 10 44 [some (vr x), l1, l2] (st) M Q = WP d 10 45 [some (vr x), l1, l2] (vr x :: st) M Q := w1 mC_10 d10_44 rfl rfl
theorem d10_45 : decode cX3_line 45 = .ok (.bipush 59, 2) := by decide +kernel
theorem k10_45 {d : Nat} {l0 l1 l2 : Option PV} {st : List PV} {M : Mem} {Q : Option PV → Mem → Prop} : WP d 10 45 [l0, l1, l2] (st) M Q = WP d 10 47 [l0, l1, l2] (vi 59 :: st) M Q := w_bipush mC_10 d10_45 (by decide)
theorem d10_47 : decode cX3_line 47 = .ok (.iconst 0, 1) := by decide +kernel
theorem k10_47 {d : Nat} {l0 l1 l2 : Option PV} {st : List PV} {M : Mem} {Q : Option PV → Mem → Prop} : WP d 10 47 [l0, l1, l2] (st) M Q = WP d 10 48 [l0, l1, l2] (vi 0 :: st) M Q := w_iconst mC_10 d10_47 (by decide)
theorem d10_48 : decode cX3_line 48 = .ok (.invokevirtual 55, 3) := by decide +kernel
theorem k10_48 {d : Nat} {l0 l1 l2 : Option PV} {st : List PV} {M : Mem} {Q : Option PV → Mem → Prop} {a0 a1 : Int32} {r : Nat} (hl : szL st ≤ 8) (hk : mK M r = 3) : WP (d + 1) 10 48 [l0, l1, l2] (vi a1 :: vi a0 :: vr r :: st) M Q = WP d 18 0 [some (vr r), some (vi a0), some (vi a1)] [] M (fun v M' => WP (d + 1) 10 51 [l0, l1, l2] (psh v st) M' Q) := w_callV mC_10 d10_48 (ci := 3) rfl rfl rfl (Nat.le_of_ble_eq_true rfl) (by decide) rfl hl (Or.inl hk)
theorem d10_51 : decode cX3_line 51 = .ok (.ifCond .eq 7, 3) := by decide +kernel
theorem k10_51 {d : Nat} {l0 l1 l2 : Option PV} {st : List PV} {M : Mem} {Q : Option PV → Mem → Prop} {x : Int32} : WP d 10 51 [l0, l1, l2] (vi x :: st) M Q = (if x = 0 then WP d 10 58 [l0, l1, l2] (st) M Q else WP d 10 54 [l0, l1, l2] (st) M Q) := w_if_eq mC_10 d10_51 (by decide)
theorem d10_54 : decode cX3_line 54 = .ok (.iconst 1, 1) := by decide +kernel
theorem k10_54 {d : Nat} {l0 l1 l2 : Option PV} {st : List PV} {M : Mem} {Q : Option PV → Mem → Prop} : WP d 10 54 [l0, l1, l2] (st) M Q = WP d 10 55 [l0, l1, l2] (vi 1 :: st) M Q := w_iconst mC_10 d10_54 (by decide)
theorem d10_55 : decode cX3_line 55 = .ok (.goto 4, 3) := by decide +kernel
theorem k10_55 {d : Nat} {l0 l1 l2 : Option PV} {st : List PV} {M : Mem} {Q : Option PV → Mem → Prop} : WP d 10 55 [l0, l1, l2] (st) M Q = WP d 10 59 [l0, l1, l2] (st) M Q := w_goto mC_10 d10_55 (by decide)
theorem d10_58 : decode cX3_line 58 = .ok (.iconst 0, 1) := by decide +kernel
theorem k10_58 {d : Nat} {l0 l1 l2 : Option PV} {st : List PV} {M : Mem} {Q : Option PV → Mem → Prop} : WP d 10 58 [l0, l1, l2] (st) M Q = WP d 10 59 [l0, l1, l2] (vi 0 :: st) M Q := w_iconst mC_10 d10_58 (by decide)
theorem d10_59 : decode cX3_line 59 = .ok (.istore_n 1, 1) := by decide +kernel
theorem k10_59 {d : Nat} {l0 l1 l2 : Option PV} {st : List PV} {M : Mem} {Q : Option PV → Mem → Prop} {x : Int32} : WP d 10 59 [l0, l1, l2] (vi x :: st) M Q = WP d 10 60 [l0, some (vi x), l2] (st) M Q := w1 mC_10 d10_59 rfl rfl
theorem d10_60 : decode cX3_line 60 = .ok (.iload_n 1, 1) := by decide +kernel
theorem k10_60 {d : Nat} {x : Int32} {l0 l2 : Option PV} {st : List PV} {M : Mem} {Q : Option PV → Mem → Prop} : WP d 10 60 [l0, some (vi x), l2] (st) M Q = WP d 10 61 [l0, some (vi x), l2] (vi x :: st) M Q := w1 mC_10 d10_60 rfl rfl
theorem d10_61 : decode cX3_line 61 = .ok (.ifCond .eq 13, 3) := by decide +kernel
theorem k10_61 {d : Nat} {l0 l1 l2 : Option PV} {st : List PV} {M : Mem} {Q : Option PV → Mem → Prop} {x : Int32} : WP d 10 61 [l0, l1, l2] (vi x :: st) M Q = (if x = 0 then WP d 10 74 [l0, l1, l2] (st) M Q else WP d 10 64 [l0, l1, l2] (st) M Q) := w_if_eq mC_10 d10_61 (by decide)
theorem d10_64 : decode cX3_line 64 = .ok (.aload_n 0, 1) := by decide +kernel
theorem k10_64 {d x : Nat} {l1 l2 : Option PV} {st : List PV} {M : Mem} {Q : Option PV → Mem → Prop} : WP d 10 64 [some (vr x), l1, l2] (st) M Q = WP d 10 65 [some (vr x), l1, l2] (vr x :: st) M Q := w1 mC_10 d10_64 rfl rfl
theorem d10_65 : decode cX3_line 65 = .ok (.getfield 15, 3) := by decide +kernel
theorem k10_65 {d : Nat} {l0 l1 l2 : Option PV} {st : List PV} {M : Mem} {Q : Option PV → Mem → Prop} {r : Nat} (hk : mK M r = 3) : WP d 10 65 [l0, l1, l2] (vr r :: st) M Q = WP d 10 68 [l0, l1, l2] (vr (mR M r 1) :: st) M Q := w_getr mC_10 d10_65 fE_3_15 rfl (by rw [hk]; rfl)
theorem d10_68 : decode cX3_line 68 = .ok (.iload_n 2, 1) := by decide +kernel
theorem k10_68 {d : Nat} {x : Int32} {l0 l1 : Option PV} {st : List PV} {M : Mem} {Q : Option PV → Mem → Prop} : WP d 10 68 [l0, l1, some (vi x)] (st) M Q = WP d 10 69 [l0, l1, some (vi x)] (vi x :: st) M Q := w1 mC_10 d10_68 rfl rfl
theorem d10_69 : decode cX3_line 69 = .ok (.aload_n 0, 1) := by decide +kernel
theorem k10_69 {d x : Nat} {l1 l2 : Option PV} {st : List PV} {M : Mem} {Q : Option PV → Mem → Prop} : WP d 10 69 [some (vr x), l1, l2] (st) M Q = WP d 10 70 [some (vr x), l1, l2] (vr x :: st) M Q := w1 mC_10 d10_69 rfl rfl
theorem d10_70 : decode cX3_line 70 = .ok (.getfield 24, 3) := by decide +kernel
theorem k10_70 {d : Nat} {l0 l1 l2 : Option PV} {st : List PV} {M : Mem} {Q : Option PV → Mem → Prop} {r : Nat} (hk : mK M r = 3) : WP d 10 70 [l0, l1, l2] (vr r :: st) M Q = WP d 10 73 [l0, l1, l2] (vi (mI M r 4) :: st) M Q := w_get mC_10 d10_70 fE_3_24 rfl (by rw [hk]; rfl)
theorem d10_73 : decode cX3_line 73 = .ok (.iastore, 1) := by decide +kernel
theorem k10_73 {d : Nat} {l0 l1 l2 : Option PV} {st : List PV} {M : Mem} {Q : Option PV → Mem → Prop} {r : Nat} {j x : Int32} (hk : mK M r = 13) (hj : inb j (mN M r)) (h1 : r ≠ 1) : WP d 10 73 [l0, l1, l2] (vi x :: vi j :: vr r :: st) M Q = WP d 10 74 [l0, l1, l2] (st) (sI M r (ix j) x) Q := w_iast mC_10 d10_73 hk hj h1
theorem d10_74 : decode cX3_line 74 = .ok (.iload_n 1, 1) := by decide +kernel
theorem k10_74 {d : Nat} {x : Int32} {l0 l2 : Option PV} {st : List PV} {M : Mem} {Q : Option PV → Mem → Prop} : WP d 10 74 [l0, some (vi x), l2] (st) M Q = WP d 10 75 [l0, some (vi x), l2] (vi x :: st) M Q := w1 mC_10 d10_74 rfl rfl
theorem d10_75 : decode cX3_line 75 = .ok (.ireturn, 1) := by decide +kernel
theorem k10_75 {d : Nat} {l0 l1 l2 : Option PV} {M : Mem} {Q : Option PV → Mem → Prop} {x : Int32} (hx : x = 0 ∨ x = 1) : WP d 10 75 [l0, l1, l2] ([vi x]) M Q = Q (some (vi x)) M := w_zret mC_10 d10_75 rfl hx
theorem d10_76 : decode cX3_line 76 = .ok (.iload_n 1, 1) := by decide +kernel
theorem k10_76 {d : Nat} {x : Int32} {l0 l2 : Option PV} {st : List PV} {M : Mem} {Q : Option PV → Mem → Prop} : WP d 10 76 [l0, some (vi x), l2] (st) M Q = WP d 10 77 [l0, some (vi x), l2] (vi x :: st) M Q := w1 mC_10 d10_76 rfl rfl
theorem d10_77 : decode cX3_line 77 = .ok (.ifCond .eq 17, 3) := by decide +kernel
theorem k10_77 {d : Nat} {l0 l1 l2 : Option PV} {st : List PV} {M : Mem} {Q : Option PV → Mem → Prop} {x : Int32} : WP d 10 77 [l0, l1, l2] (vi x :: st) M Q = (if x = 0 then WP d 10 94 [l0, l1, l2] (st) M Q else WP d 10 80 [l0, l1, l2] (st) M Q) := w_if_eq mC_10 d10_77 (by decide)
theorem d10_80 : decode cX3_line 80 = .ok (.aload_n 0, 1) := by decide +kernel
theorem k10_80 {d x : Nat} {l1 l2 : Option PV} {st : List PV} {M : Mem} {Q : Option PV → Mem → Prop} : WP d 10 80 [some (vr x), l1, l2] (st) M Q = WP d 10 81 [some (vr x), l1, l2] (vr x :: st) M Q := w1 mC_10 d10_80 rfl rfl
theorem d10_81 : decode cX3_line 81 = .ok (.bipush 59, 2) := by decide +kernel
theorem k10_81 {d : Nat} {l0 l1 l2 : Option PV} {st : List PV} {M : Mem} {Q : Option PV → Mem → Prop} : WP d 10 81 [l0, l1, l2] (st) M Q = WP d 10 83 [l0, l1, l2] (vi 59 :: st) M Q := w_bipush mC_10 d10_81 (by decide)
theorem d10_83 : decode cX3_line 83 = .ok (.iconst 0, 1) := by decide +kernel
theorem k10_83 {d : Nat} {l0 l1 l2 : Option PV} {st : List PV} {M : Mem} {Q : Option PV → Mem → Prop} : WP d 10 83 [l0, l1, l2] (st) M Q = WP d 10 84 [l0, l1, l2] (vi 0 :: st) M Q := w_iconst mC_10 d10_83 (by decide)
theorem d10_84 : decode cX3_line 84 = .ok (.invokevirtual 55, 3) := by decide +kernel
theorem k10_84 {d : Nat} {l0 l1 l2 : Option PV} {st : List PV} {M : Mem} {Q : Option PV → Mem → Prop} {a0 a1 : Int32} {r : Nat} (hl : szL st ≤ 8) (hk : mK M r = 3) : WP (d + 1) 10 84 [l0, l1, l2] (vi a1 :: vi a0 :: vr r :: st) M Q = WP d 18 0 [some (vr r), some (vi a0), some (vi a1)] [] M (fun v M' => WP (d + 1) 10 87 [l0, l1, l2] (psh v st) M' Q) := w_callV mC_10 d10_84 (ci := 3) rfl rfl rfl (Nat.le_of_ble_eq_true rfl) (by decide) rfl hl (Or.inl hk)
theorem d10_87 : decode cX3_line 87 = .ok (.ifCond .eq 7, 3) := by decide +kernel
theorem k10_87 {d : Nat} {l0 l1 l2 : Option PV} {st : List PV} {M : Mem} {Q : Option PV → Mem → Prop} {x : Int32} : WP d 10 87 [l0, l1, l2] (vi x :: st) M Q = (if x = 0 then WP d 10 94 [l0, l1, l2] (st) M Q else WP d 10 90 [l0, l1, l2] (st) M Q) := w_if_eq mC_10 d10_87 (by decide)
theorem d10_90 : decode cX3_line 90 = .ok (.iconst 1, 1) := by decide +kernel
theorem k10_90 {d : Nat} {l0 l1 l2 : Option PV} {st : List PV} {M : Mem} {Q : Option PV → Mem → Prop} : WP d 10 90 [l0, l1, l2] (st) M Q = WP d 10 91 [l0, l1, l2] (vi 1 :: st) M Q := w_iconst mC_10 d10_90 (by decide)
theorem d10_91 : decode cX3_line 91 = .ok (.goto 4, 3) := by decide +kernel
theorem k10_91 {d : Nat} {l0 l1 l2 : Option PV} {st : List PV} {M : Mem} {Q : Option PV → Mem → Prop} : WP d 10 91 [l0, l1, l2] (st) M Q = WP d 10 95 [l0, l1, l2] (st) M Q := w_goto mC_10 d10_91 (by decide)
theorem d10_94 : decode cX3_line 94 = .ok (.iconst 0, 1) := by decide +kernel
theorem k10_94 {d : Nat} {l0 l1 l2 : Option PV} {st : List PV} {M : Mem} {Q : Option PV → Mem → Prop} : WP d 10 94 [l0, l1, l2] (st) M Q = WP d 10 95 [l0, l1, l2] (vi 0 :: st) M Q := w_iconst mC_10 d10_94 (by decide)
theorem d10_95 : decode cX3_line 95 = .ok (.ireturn, 1) := by decide +kernel
theorem k10_95 {d : Nat} {l0 l1 l2 : Option PV} {M : Mem} {Q : Option PV → Mem → Prop} {x : Int32} (hx : x = 0 ∨ x = 1) : WP d 10 95 [l0, l1, l2] ([vi x]) M Q = Q (some (vi x)) M := w_zret mC_10 d10_95 rfl hx
theorem d11_0 : decode cX3_joined 0 = .ok (.iload_n 1, 1) := by decide +kernel
theorem k11_0 {d : Nat} {x : Int32} {l0 l2 l3 l4 l5 l6 : Option PV} {st : List PV} {M : Mem} {Q : Option PV → Mem → Prop} : WP d 11 0 [l0, some (vi x), l2, l3, l4, l5, l6] (st) M Q = WP d 11 1 [l0, some (vi x), l2, l3, l4, l5, l6] (vi x :: st) M Q := w1 mC_11 d11_0 rfl rfl
theorem d11_1 : decode cX3_joined 1 = .ok (.iconst 5, 1) := by decide +kernel
theorem k11_1 {d : Nat} {l0 l1 l2 l3 l4 l5 l6 : Option PV} {st : List PV} {M : Mem} {Q : Option PV → Mem → Prop} : WP d 11 1 [l0, l1, l2, l3, l4, l5, l6] (st) M Q = WP d 11 2 [l0, l1, l2, l3, l4, l5, l6] (vi 5 :: st) M Q := w_iconst mC_11 d11_1 (by decide)
theorem d11_2 : decode cX3_joined 2 = .ok (.if_icmp .lt 9, 3) := by decide +kernel
theorem k11_2 {d : Nat} {l0 l1 l2 l3 l4 l5 l6 : Option PV} {st : List PV} {M : Mem} {Q : Option PV → Mem → Prop} {x y : Int32} : WP d 11 2 [l0, l1, l2, l3, l4, l5, l6] (vi y :: vi x :: st) M Q = (if x < y then WP d 11 11 [l0, l1, l2, l3, l4, l5, l6] (st) M Q else WP d 11 5 [l0, l1, l2, l3, l4, l5, l6] (st) M Q) := w_ic_lt mC_11 d11_2 (by decide)
theorem d11_5 : decode cX3_joined 5 = .ok (.aload_n 0, 1) := by decide +kernel
theorem k11_5 {d x : Nat} {l1 l2 l3 l4 l5 l6 : Option PV} {st : List PV} {M : Mem} {Q : Option PV → Mem → Prop} : WP d 11 5 [some (vr x), l1, l2, l3, l4, l5, l6] (st) M Q = WP d 11 6 [some (vr x), l1, l2, l3, l4, l5, l6] (vr x :: st) M Q := w1 mC_11 d11_5 rfl rfl
theorem d11_6 : decode cX3_joined 6 = .ok (.iload_n 2, 1) := by decide +kernel
theorem k11_6 {d : Nat} {x : Int32} {l0 l1 l3 l4 l5 l6 : Option PV} {st : List PV} {M : Mem} {Q : Option PV → Mem → Prop} : WP d 11 6 [l0, l1, some (vi x), l3, l4, l5, l6] (st) M Q = WP d 11 7 [l0, l1, some (vi x), l3, l4, l5, l6] (vi x :: st) M Q := w1 mC_11 d11_6 rfl rfl
theorem d11_7 : decode cX3_joined 7 = .ok (.invokevirtual 58, 3) := by decide +kernel
theorem k11_7 {d : Nat} {l0 l1 l2 l3 l4 l5 l6 : Option PV} {st : List PV} {M : Mem} {Q : Option PV → Mem → Prop} {a0 : Int32} {r : Nat} (hl : szL st ≤ 8) (hk : mK M r = 3) : WP (d + 1) 11 7 [l0, l1, l2, l3, l4, l5, l6] (vi a0 :: vr r :: st) M Q = WP d 13 0 [some (vr r), some (vi a0)] [] M (fun v M' => WP (d + 1) 11 10 [l0, l1, l2, l3, l4, l5, l6] (psh v st) M' Q) := w_callV mC_11 d11_7 (ci := 3) rfl rfl rfl (Nat.le_of_ble_eq_true rfl) (by decide) rfl hl (Or.inl hk)
theorem d11_10 : decode cX3_joined 10 = .ok (.ireturn, 1) := by decide +kernel
theorem k11_10 {d : Nat} {l0 l1 l2 l3 l4 l5 l6 : Option PV} {M : Mem} {Q : Option PV → Mem → Prop} {x : Int32} (hx : x = 0 ∨ x = 1) : WP d 11 10 [l0, l1, l2, l3, l4, l5, l6] ([vi x]) M Q = Q (some (vi x)) M := w_zret mC_11 d11_10 rfl hx
theorem d11_11 : decode cX3_joined 11 = .ok (.aload_n 0, 1) := by decide +kernel
theorem k11_11 {d x : Nat} {l1 l2 l3 l4 l5 l6 : Option PV} {st : List PV} {M : Mem} {Q : Option PV → Mem → Prop} : WP d 11 11 [some (vr x), l1, l2, l3, l4, l5, l6] (st) M Q = WP d 11 12 [some (vr x), l1, l2, l3, l4, l5, l6] (vr x :: st) M Q := w1 mC_11 d11_11 rfl rfl
theorem d11_12 : decode cX3_joined 12 = .ok (.iload_n 1, 1) := by decide +kernel
theorem k11_12 {d : Nat} {x : Int32} {l0 l2 l3 l4 l5 l6 : Option PV} {st : List PV} {M : Mem} {Q : Option PV → Mem → Prop} : WP d 11 12 [l0, some (vi x), l2, l3, l4, l5, l6] (st) M Q = WP d 11 13 [l0, some (vi x), l2, l3, l4, l5, l6] (vi x :: st) M Q := w1 mC_11 d11_12 rfl rfl
theorem d11_13 : decode cX3_joined 13 = .ok (.iconst 1, 1) := by decide +kernel
theorem k11_13 {d : Nat} {l0 l1 l2 l3 l4 l5 l6 : Option PV} {st : List PV} {M : Mem} {Q : Option PV → Mem → Prop} : WP d 11 13 [l0, l1, l2, l3, l4, l5, l6] (st) M Q = WP d 11 14 [l0, l1, l2, l3, l4, l5, l6] (vi 1 :: st) M Q := w_iconst mC_11 d11_13 (by decide)
theorem d11_14 : decode cX3_joined 14 = .ok (.iadd, 1) := by decide +kernel
theorem k11_14 {d : Nat} {l0 l1 l2 l3 l4 l5 l6 : Option PV} {st : List PV} {M : Mem} {Q : Option PV → Mem → Prop} {x y : Int32} : WP d 11 14 [l0, l1, l2, l3, l4, l5, l6] (vi y :: vi x :: st) M Q = WP d 11 15 [l0, l1, l2, l3, l4, l5, l6] (vi (x + y) :: st) M Q := w1 mC_11 d11_14 rfl rfl
theorem d11_15 : decode cX3_joined 15 = .ok (.iload_n 2, 1) := by decide +kernel
theorem k11_15 {d : Nat} {x : Int32} {l0 l1 l3 l4 l5 l6 : Option PV} {st : List PV} {M : Mem} {Q : Option PV → Mem → Prop} : WP d 11 15 [l0, l1, some (vi x), l3, l4, l5, l6] (st) M Q = WP d 11 16 [l0, l1, some (vi x), l3, l4, l5, l6] (vi x :: st) M Q := w1 mC_11 d11_15 rfl rfl
theorem d11_16 : decode cX3_joined 16 = .ok (.invokevirtual 51, 3) := by decide +kernel
theorem k11_16 {d : Nat} {l0 l1 l2 l3 l4 l5 l6 : Option PV} {st : List PV} {M : Mem} {Q : Option PV → Mem → Prop} {a0 a1 : Int32} {r : Nat} (hl : szL st ≤ 8) (hk : mK M r = 3) : WP (d + 1) 11 16 [l0, l1, l2, l3, l4, l5, l6] (vi a1 :: vi a0 :: vr r :: st) M Q = WP d 11 0 [some (vr r), some (vi a0), some (vi a1), none, none, none, none] [] M (fun v M' => WP (d + 1) 11 19 [l0, l1, l2, l3, l4, l5, l6] (psh v st) M' Q) := w_callV mC_11 d11_16 (ci := 3) rfl rfl rfl (Nat.le_of_ble_eq_true rfl) (by decide) rfl hl (Or.inl hk)
theorem d11_19 : decode cX3_joined 19 = .ok (.istore_n 3, 1) := by decide +kernel
theorem k11_19 {d : Nat} {l0 l1 l2 l3 l4 l5 l6 : Option PV} {st : List PV} {M : Mem} {Q : Option PV → Mem → Prop} {x : Int32} : WP d 11 19 [l0, l1, l2, l3, l4, l5, l6] (vi x :: st) M Q = WP d 11 20 [l0, l1, l2, some (vi x), l4, l5, l6] (st) M Q := w1 mC_11 d11_19 rfl rfl
theorem d11_20 : decode cX3_joined 20 = .ok (.iload_n 1, 1) := by decide +kernel
theorem k11_20 {d : Nat} {x : Int32} {l0 l2 l3 l4 l5 l6 : Option PV} {st : List PV} {M : Mem} {Q : Option PV → Mem → Prop} : WP d 11 20 [l0, some (vi x), l2, l3, l4, l5, l6] (st) M Q = WP d 11 21 [l0, some (vi x), l2, l3, l4, l5, l6] (vi x :: st) M Q := w1 mC_11 d11_20 rfl rfl
theorem d11_21 : decode cX3_joined 21 = .ok (.iconst 2, 1) := by decide +kernel
theorem k11_21 {d : Nat} {l0 l1 l2 l3 l4 l5 l6 : Option PV} {st : List PV} {M : Mem} {Q : Option PV → Mem → Prop} : WP d 11 21 [l0, l1, l2, l3, l4, l5, l6] (st) M Q = WP d 11 22 [l0, l1, l2, l3, l4, l5, l6] (vi 2 :: st) M Q := w_iconst mC_11 d11_21 (by decide)
theorem d11_22 : decode cX3_joined 22 = .ok (.if_icmp .ne 7, 3) := by decide +kernel
theorem k11_22 {d : Nat} {l0 l1 l2 l3 l4 l5 l6 : Option PV} {st : List PV} {M : Mem} {Q : Option PV → Mem → Prop} {x y : Int32} : WP d 11 22 [l0, l1, l2, l3, l4, l5, l6] (vi y :: vi x :: st) M Q = (if x = y then WP d 11 25 [l0, l1, l2, l3, l4, l5, l6] (st) M Q else WP d 11 29 [l0, l1, l2, l3, l4, l5, l6] (st) M Q) := w_ic_ne mC_11 d11_22 (by decide)
theorem d11_25 : decode cX3_joined 25 = .ok (.iconst 1, 1) := by decide +kernel
theorem k11_25 {d : Nat} {l0 l1 l2 l3 l4 l5 l6 : Option PV} {st : List PV} {M : Mem} {Q : Option PV → Mem → Prop} : WP d 11 25 [l0, l1, l2, l3, l4, l5, l6] (st) M Q = WP d 11 26 [l0, l1, l2, l3, l4, l5, l6] (vi 1 :: st) M Q := w_iconst mC_11 d11_25 (by decide)
theorem d11_26 : decode cX3_joined 26 = .ok (.goto 5, 3) := by decide +kernel
theorem k11_26 {d : Nat} {l0 l1 l2 l3 l4 l5 l6 : Option PV} {st : List PV} {M : Mem} {Q : Option PV → Mem → Prop} : WP d 11 26 [l0, l1, l2, l3, l4, l5, l6] (st) M Q = WP d 11 31 [l0, l1, l2, l3, l4, l5, l6] (st) M Q := w_goto mC_11 d11_26 (by decide)
theorem d11_29 : decode cX3_joined 29 = .ok (.bipush 120, 2) := by decide +kernel
theorem k11_29 {d : Nat} {l0 l1 l2 l3 l4 l5 l6 : Option PV} {st : List PV} {M : Mem} {Q : Option PV → Mem → Prop} : WP d 11 29 [l0, l1, l2, l3, l4, l5, l6] (st) M Q = WP d 11 31 [l0, l1, l2, l3, l4, l5, l6] (vi 120 :: st) M Q := w_bipush mC_11 d11_29 (by decide)
theorem d11_31 : decode cX3_joined 31 = .ok (.istore 4, 2) := by decide +kernel
theorem k11_31 {d : Nat} {l0 l1 l2 l3 l4 l5 l6 : Option PV} {st : List PV} {M : Mem} {Q : Option PV → Mem → Prop} {x : Int32} : WP d 11 31 [l0, l1, l2, l3, l4, l5, l6] (vi x :: st) M Q = WP d 11 33 [l0, l1, l2, l3, some (vi x), l5, l6] (st) M Q := w1 mC_11 d11_31 rfl rfl
theorem d11_33 : decode cX3_joined 33 = .ok (.iconst 0, 1) := by decide +kernel
theorem k11_33 {d : Nat} {l0 l1 l2 l3 l4 l5 l6 : Option PV} {st : List PV} {M : Mem} {Q : Option PV → Mem → Prop} : WP d 11 33 [l0, l1, l2, l3, l4, l5, l6] (st) M Q = WP d 11 34 [l0, l1, l2, l3, l4, l5, l6] (vi 0 :: st) M Q := w_iconst mC_11 d11_33 (by decide)
theorem d11_34 : decode cX3_joined 34 = .ok (.istore 5, 2) := by decide +kernel
theorem k11_34 {d : Nat} {l0 l1 l2 l3 l4 l5 l6 : Option PV} {st : List PV} {M : Mem} {Q : Option PV → Mem → Prop} {x : Int32} : WP d 11 34 [l0, l1, l2, l3, l4, l5, l6] (vi x :: st) M Q = WP d 11 36 [l0, l1, l2, l3, l4, some (vi x), l6] (st) M Q := w1 mC_11 d11_34 rfl rfl
theorem d11_36 : decode cX3_joined 36 = .ok (.iload 5, 2) := by decide +kernel
theorem k11_36 {d : Nat} {x : Int32} {l0 l1 l2 l3 l4 l6 : Option PV} {st : List PV} {M : Mem} {Q : Option PV → Mem → Prop} : WP d 11 36 [l0, l1, l2, l3, l4, some (vi x), l6] (st) M Q = WP d 11 38 [l0, l1, l2, l3, l4, some (vi x), l6] (vi x :: st) M Q := w1 mC_11 d11_36 rfl rfl
theorem d11_38 : decode cX3_joined 38 = .ok (.iload 4, 2) := by decide +kernel
theorem k11_38 {d : Nat} {x : Int32} {l0 l1 l2 l3 l5 l6 : Option PV} {st : List PV} {M : Mem} {Q : Option PV → Mem → Prop} : WP d 11 38 [l0, l1, l2, l3, some (vi x), l5, l6] (st) M Q = WP d 11 40 [l0, l1, l2, l3, some (vi x), l5, l6] (vi x :: st) M Q := w1 mC_11 d11_38 rfl rfl
theorem d11_40 : decode cX3_joined 40 = .ok (.if_icmp .ge 88, 3) := by decide +kernel
theorem k11_40 {d : Nat} {l0 l1 l2 l3 l4 l5 l6 : Option PV} {st : List PV} {M : Mem} {Q : Option PV → Mem → Prop} {x y : Int32} : WP d 11 40 [l0, l1, l2, l3, l4, l5, l6] (vi y :: vi x :: st) M Q = (if y ≤ x then WP d 11 128 [l0, l1, l2, l3, l4, l5, l6] (st) M Q else WP d 11 43 [l0, l1, l2, l3, l4, l5, l6] (st) M Q) := w_ic_ge mC_11 d11_40 (by decide)
theorem d11_43 : decode cX3_joined 43 = .ok (.iload_n 3, 1) := by decide +kernel
theorem k11_43 {d : Nat} {x : Int32} {l0 l1 l2 l4 l5 l6 : Option PV} {st : List PV} {M : Mem} {Q : Option PV → Mem → Prop} : WP d 11 43 [l0, l1, l2, some (vi x), l4, l5, l6] (st) M Q = WP d 11 44 [l0, l1, l2, some (vi x), l4, l5, l6] (vi x :: st) M Q := w1 mC_11 d11_43 rfl rfl
theorem d11_44 : decode cX3_joined 44 = .ok (.ifCond .eq 84, 3) := by decide +kernel
theorem k11_44 {d : Nat} {l0 l1 l2 l3 l4 l5 l6 : Option PV} {st : List PV} {M : Mem} {Q : Option PV → Mem → Prop} {x : Int32} : WP d 11 44 [l0, l1, l2, l3, l4, l5, l6] (vi x :: st) M Q = (if x = 0 then WP d 11 128 [l0, l1, l2, l3, l4, l5, l6] (st) M Q else WP d 11 47 [l0, l1, l2, l3, l4, l5, l6] (st) M Q) := w_if_eq mC_11 d11_44 (by decide)
theorem d11_47 : decode cX3_joined 47 = .ok (.aload_n 0, 1) := by decide +kernel
theorem k11_47 {d x : Nat} {l1 l2 l3 l4 l5 l6 : Option PV} {st : List PV} {M : Mem} {Q : Option PV → Mem → Prop} : WP d 11 47 [some (vr x), l1, l2, l3, l4, l5, l6] (st) M Q = WP d 11 48 [some (vr x), l1, l2, l3, l4, l5, l6] (vr x :: st) M Q := w1 mC_11 d11_47 rfl rfl
theorem d11_48 : decode cX3_joined 48 = .ok (.getfield 40, 3) := by decide +kernel
theorem k11_48 {d : Nat} {l0 l1 l2 l3 l4 l5 l6 : Option PV} {st : List PV} {M : Mem} {Q : Option PV → Mem → Prop} {r : Nat} (hk : mK M r = 3) : WP d 11 48 [l0, l1, l2, l3, l4, l5, l6] (vr r :: st) M Q = WP d 11 51 [l0, l1, l2, l3, l4, l5, l6] (vi (mI M r 8) :: st) M Q := w_get mC_11 d11_48 fE_3_40 rfl (by rw [hk]; rfl)
theorem d11_51 : decode cX3_joined 51 = .ok (.aload_n 0, 1) := by decide +kernel
theorem k11_51 {d x : Nat} {l1 l2 l3 l4 l5 l6 : Option PV} {st : List PV} {M : Mem} {Q : Option PV → Mem → Prop} : WP d 11 51 [some (vr x), l1, l2, l3, l4, l5, l6] (st) M Q = WP d 11 52 [some (vr x), l1, l2, l3, l4, l5, l6] (vr x :: st) M Q := w1 mC_11 d11_51 rfl rfl
theorem d11_52 : decode cX3_joined 52 = .ok (.getfield 37, 3) := by decide +kernel
theorem k11_52 {d : Nat} {l0 l1 l2 l3 l4 l5 l6 : Option PV} {st : List PV} {M : Mem} {Q : Option PV → Mem → Prop} {r : Nat} (hk : mK M r = 3) : WP d 11 52 [l0, l1, l2, l3, l4, l5, l6] (vr r :: st) M Q = WP d 11 55 [l0, l1, l2, l3, l4, l5, l6] (vi (mI M r 7) :: st) M Q := w_get mC_11 d11_52 fE_3_37 rfl (by rw [hk]; rfl)
theorem d11_55 : decode cX3_joined 55 = .ok (.if_icmp .ge 73, 3) := by decide +kernel
theorem k11_55 {d : Nat} {l0 l1 l2 l3 l4 l5 l6 : Option PV} {st : List PV} {M : Mem} {Q : Option PV → Mem → Prop} {x y : Int32} : WP d 11 55 [l0, l1, l2, l3, l4, l5, l6] (vi y :: vi x :: st) M Q = (if y ≤ x then WP d 11 128 [l0, l1, l2, l3, l4, l5, l6] (st) M Q else WP d 11 58 [l0, l1, l2, l3, l4, l5, l6] (st) M Q) := w_ic_ge mC_11 d11_55 (by decide)
theorem d11_58 : decode cX3_joined 58 = .ok (.aload_n 0, 1) := by decide +kernel
theorem k11_58 {d x : Nat} {l1 l2 l3 l4 l5 l6 : Option PV} {st : List PV} {M : Mem} {Q : Option PV → Mem → Prop} : WP d 11 58 [some (vr x), l1, l2, l3, l4, l5, l6] (st) M Q = WP d 11 59 [some (vr x), l1, l2, l3, l4, l5, l6] (vr x :: st) M Q := w1 mC_11 d11_58 rfl rfl
theorem d11_59 : decode cX3_joined 59 = .ok (.getfield 28, 3) := by decide +kernel
theorem k11_59 {d : Nat} {l0 l1 l2 l3 l4 l5 l6 : Option PV} {st : List PV} {M : Mem} {Q : Option PV → Mem → Prop} {r : Nat} (hk : mK M r = 3) : WP d 11 59 [l0, l1, l2, l3, l4, l5, l6] (vr r :: st) M Q = WP d 11 62 [l0, l1, l2, l3, l4, l5, l6] (vr (mR M r 6) :: st) M Q := w_getr mC_11 d11_59 fE_3_28 rfl (by rw [hk]; rfl)
theorem d11_62 : decode cX3_joined 62 = .ok (.aload_n 0, 1) := by decide +kernel
theorem k11_62 {d x : Nat} {l1 l2 l3 l4 l5 l6 : Option PV} {st : List PV} {M : Mem} {Q : Option PV → Mem → Prop} : WP d 11 62 [some (vr x), l1, l2, l3, l4, l5, l6] (st) M Q = WP d 11 63 [some (vr x), l1, l2, l3, l4, l5, l6] (vr x :: st) M Q := w1 mC_11 d11_62 rfl rfl
theorem d11_63 : decode cX3_joined 63 = .ok (.getfield 40, 3) := by decide +kernel
theorem k11_63 {d : Nat} {l0 l1 l2 l3 l4 l5 l6 : Option PV} {st : List PV} {M : Mem} {Q : Option PV → Mem → Prop} {r : Nat} (hk : mK M r = 3) : WP d 11 63 [l0, l1, l2, l3, l4, l5, l6] (vr r :: st) M Q = WP d 11 66 [l0, l1, l2, l3, l4, l5, l6] (vi (mI M r 8) :: st) M Q := w_get mC_11 d11_63 fE_3_40 rfl (by rw [hk]; rfl)
theorem d11_66 : decode cX3_joined 66 = .ok (.iaload, 1) := by decide +kernel
theorem k11_66 {d : Nat} {l0 l1 l2 l3 l4 l5 l6 : Option PV} {st : List PV} {M : Mem} {Q : Option PV → Mem → Prop} {r : Nat} {j : Int32} (hk : mK M r = 13) (hj : inb j (mN M r)) (_h1 : r ≠ 1) : WP d 11 66 [l0, l1, l2, l3, l4, l5, l6] (vi j :: vr r :: st) M Q = WP d 11 67 [l0, l1, l2, l3, l4, l5, l6] (vi (mI M r (ix j)) :: st) M Q := w_iald mC_11 d11_66 hk hj
theorem d11_67 : decode cX3_joined 67 = .ok (.invokestatic 61, 3) := by decide +kernel
theorem k11_67 {d : Nat} {l0 l1 l2 l3 l4 l5 l6 : Option PV} {st : List PV} {M : Mem} {Q : Option PV → Mem → Prop} {a0 : Int32} (hl : szL st ≤ 8) : WP (d + 1) 11 67 [l0, l1, l2, l3, l4, l5, l6] (vi a0 :: st) M Q = WP d 12 0 [some (vi a0)] [] M (fun v M' => WP (d + 1) 11 70 [l0, l1, l2, l3, l4, l5, l6] (psh v st) M' Q) := w_callS mC_11 d11_67 rfl rfl (Nat.le_of_ble_eq_true rfl) (by decide) rfl hl
theorem d11_70 : decode cX3_joined 70 = .ok (.iload_n 1, 1) := by decide +kernel
theorem k11_70 {d : Nat} {x : Int32} {l0 l2 l3 l4 l5 l6 : Option PV} {st : List PV} {M : Mem} {Q : Option PV → Mem → Prop} : WP d 11 70 [l0, some (vi x), l2, l3, l4, l5, l6] (st) M Q = WP d 11 71 [l0, some (vi x), l2, l3, l4, l5, l6] (vi x :: st) M Q := w1 mC_11 d11_70 rfl rfl
theorem d11_71 : decode cX3_joined 71 = .ok (.if_icmp .ne 57, 3) := by decide +kernel
theorem k11_71 {d : Nat} {l0 l1 l2 l3 l4 l5 l6 : Option PV} {st : List PV} {M : Mem} {Q : Option PV → Mem → Prop} {x y : Int32} : WP d 11 71 [l0, l1, l2, l3, l4, l5, l6] (vi y :: vi x :: st) M Q = (if x = y then WP d 11 74 [l0, l1, l2, l3, l4, l5, l6] (st) M Q else WP d 11 128 [l0, l1, l2, l3, l4, l5, l6] (st) M Q) := w_ic_ne mC_11 d11_71 (by decide)
theorem d11_74 : decode cX3_joined 74 = .ok (.aload_n 0, 1) := by decide +kernel
theorem k11_74 {d x : Nat} {l1 l2 l3 l4 l5 l6 : Option PV} {st : List PV} {M : Mem} {Q : Option PV → Mem → Prop} : WP d 11 74 [some (vr x), l1, l2, l3, l4, l5, l6] (st) M Q = WP d 11 75 [some (vr x), l1, l2, l3, l4, l5, l6] (vr x :: st) M Q := w1 mC_11 d11_74 rfl rfl
theorem d11_75 : decode cX3_joined 75 = .ok (.getfield 28, 3) := by decide +kernel
theorem k11_75 {d : Nat} {l0 l1 l2 l3 l4 l5 l6 : Option PV} {st : List PV} {M : Mem} {Q : Option PV → Mem → Prop} {r : Nat} (hk : mK M r = 3) : WP d 11 75 [l0, l1, l2, l3, l4, l5, l6] (vr r :: st) M Q = WP d 11 78 [l0, l1, l2, l3, l4, l5, l6] (vr (mR M r 6) :: st) M Q := w_getr mC_11 d11_75 fE_3_28 rfl (by rw [hk]; rfl)
theorem d11_78 : decode cX3_joined 78 = .ok (.aload_n 0, 1) := by decide +kernel
theorem k11_78 {d x : Nat} {l1 l2 l3 l4 l5 l6 : Option PV} {st : List PV} {M : Mem} {Q : Option PV → Mem → Prop} : WP d 11 78 [some (vr x), l1, l2, l3, l4, l5, l6] (st) M Q = WP d 11 79 [some (vr x), l1, l2, l3, l4, l5, l6] (vr x :: st) M Q := w1 mC_11 d11_78 rfl rfl
theorem d11_79 : decode cX3_joined 79 = .ok (.getfield 40, 3) := by decide +kernel
theorem k11_79 {d : Nat} {l0 l1 l2 l3 l4 l5 l6 : Option PV} {st : List PV} {M : Mem} {Q : Option PV → Mem → Prop} {r : Nat} (hk : mK M r = 3) : WP d 11 79 [l0, l1, l2, l3, l4, l5, l6] (vr r :: st) M Q = WP d 11 82 [l0, l1, l2, l3, l4, l5, l6] (vi (mI M r 8) :: st) M Q := w_get mC_11 d11_79 fE_3_40 rfl (by rw [hk]; rfl)
theorem d11_82 : decode cX3_joined 82 = .ok (.iaload, 1) := by decide +kernel
theorem k11_82 {d : Nat} {l0 l1 l2 l3 l4 l5 l6 : Option PV} {st : List PV} {M : Mem} {Q : Option PV → Mem → Prop} {r : Nat} {j : Int32} (hk : mK M r = 13) (hj : inb j (mN M r)) (_h1 : r ≠ 1) : WP d 11 82 [l0, l1, l2, l3, l4, l5, l6] (vi j :: vr r :: st) M Q = WP d 11 83 [l0, l1, l2, l3, l4, l5, l6] (vi (mI M r (ix j)) :: st) M Q := w_iald mC_11 d11_82 hk hj
theorem d11_83 : decode cX3_joined 83 = .ok (.istore 6, 2) := by decide +kernel
theorem k11_83 {d : Nat} {l0 l1 l2 l3 l4 l5 l6 : Option PV} {st : List PV} {M : Mem} {Q : Option PV → Mem → Prop} {x : Int32} : WP d 11 83 [l0, l1, l2, l3, l4, l5, l6] (vi x :: st) M Q = WP d 11 85 [l0, l1, l2, l3, l4, l5, some (vi x)] (st) M Q := w1 mC_11 d11_83 rfl rfl
theorem d11_85 : decode cX3_joined 85 = .ok (.aload_n 0, 1) := by decide +kernel
theorem k11_85 {d x : Nat} {l1 l2 l3 l4 l5 l6 : Option PV} {st : List PV} {M : Mem} {Q : Option PV → Mem → Prop} : WP d 11 85 [some (vr x), l1, l2, l3, l4, l5, l6] (st) M Q = WP d 11 86 [some (vr x), l1, l2, l3, l4, l5, l6] (vr x :: st) M Q := w1 mC_11 d11_85 rfl rfl
theorem d11_86 : decode cX3_joined 86 = .ok (.dup, 1) := by decide +kernel
theorem k11_86 {d : Nat} {l0 l1 l2 l3 l4 l5 l6 : Option PV} {st : List PV} {M : Mem} {Q : Option PV → Mem → Prop} {x : Nat} : WP d 11 86 [l0, l1, l2, l3, l4, l5, l6] (vr x :: st) M Q = WP d 11 87 [l0, l1, l2, l3, l4, l5, l6] (vr x :: vr x :: st) M Q := w1 mC_11 d11_86 rfl rfl
theorem k11_86i {d : Nat} {l0 l1 l2 l3 l4 l5 l6 : Option PV} {st : List PV} {M : Mem} {Q : Option PV → Mem → Prop} {x : Int32} : WP d 11 86 [l0, l1, l2, l3, l4, l5, l6] (vi x :: st) M Q = WP d 11 87 [l0, l1, l2, l3, l4, l5, l6] (vi x :: vi x :: st) M Q := w1 mC_11 d11_86 rfl rfl
theorem d11_87 : decode cX3_joined 87 = .ok (.getfield 40, 3) := by decide +kernel
theorem k11_87 {d : Nat} {l0 l1 l2 l3 l4 l5 l6 : Option PV} {st : List PV} {M : Mem} {Q : Option PV → Mem → Prop} {r : Nat} (hk : mK M r = 3) : WP d 11 87 [l0, l1, l2, l3, l4, l5, l6] (vr r :: st) M Q = WP d 11 90 [l0, l1, l2, l3, l4, l5, l6] (vi (mI M r 8) :: st) M Q := w_get mC_11 d11_87 fE_3_40 rfl (by rw [hk]; rfl)
theorem d11_90 : decode cX3_joined 90 = .ok (.iconst 1, 1) := by decide +kernel
theorem k11_90 {d : Nat} {l0 l1 l2 l3 l4 l5 l6 : Option PV} {st : List PV} {M : Mem} {Q : Option PV → Mem → Prop} : WP d 11 90 [l0, l1, l2, l3, l4, l5, l6] (st) M Q = WP d 11 91 [l0, l1, l2, l3, l4, l5, l6] (vi 1 :: st) M Q := w_iconst mC_11 d11_90 (by decide)
theorem d11_91 : decode cX3_joined 91 = .ok (.iadd, 1) := by decide +kernel
theorem k11_91 {d : Nat} {l0 l1 l2 l3 l4 l5 l6 : Option PV} {st : List PV} {M : Mem} {Q : Option PV → Mem → Prop} {x y : Int32} : WP d 11 91 [l0, l1, l2, l3, l4, l5, l6] (vi y :: vi x :: st) M Q = WP d 11 92 [l0, l1, l2, l3, l4, l5, l6] (vi (x + y) :: st) M Q := w1 mC_11 d11_91 rfl rfl
theorem d11_92 : decode cX3_joined 92 = .ok (.putfield 40, 3) := by decide +kernel
theorem k11_92 {d : Nat} {l0 l1 l2 l3 l4 l5 l6 : Option PV} {st : List PV} {M : Mem} {Q : Option PV → Mem → Prop} {r : Nat} {x : Int32} (hk : mK M r = 3) : WP d 11 92 [l0, l1, l2, l3, l4, l5, l6] (vi x :: vr r :: st) M Q = WP d 11 95 [l0, l1, l2, l3, l4, l5, l6] (st) (sI M r 8 x) Q := w_put mC_11 d11_92 fE_3_40 (by decide +kernel) (by rw [hk]; rfl)
theorem d11_95 : decode cX3_joined 95 = .ok (.aload_n 0, 1) := by decide +kernel
theorem k11_95 {d x : Nat} {l1 l2 l3 l4 l5 l6 : Option PV} {st : List PV} {M : Mem} {Q : Option PV → Mem → Prop} : WP d 11 95 [some (vr x), l1, l2, l3, l4, l5, l6] (st) M Q = WP d 11 96 [some (vr x), l1, l2, l3, l4, l5, l6] (vr x :: st) M Q := w1 mC_11 d11_95 rfl rfl
theorem d11_96 : decode cX3_joined 96 = .ok (.iload_n 1, 1) := by decide +kernel
theorem k11_96 {d : Nat} {x : Int32} {l0 l2 l3 l4 l5 l6 : Option PV} {st : List PV} {M : Mem} {Q : Option PV → Mem → Prop} : WP d 11 96 [l0, some (vi x), l2, l3, l4, l5, l6] (st) M Q = WP d 11 97 [l0, some (vi x), l2, l3, l4, l5, l6] (vi x :: st) M Q := w1 mC_11 d11_96 rfl rfl
theorem d11_97 : decode cX3_joined 97 = .ok (.iconst 1, 1) := by decide +kernel
theorem k11_97 {d : Nat} {l0 l1 l2 l3 l4 l5 l6 : Option PV} {st : List PV} {M : Mem} {Q : Option PV → Mem → Prop} : WP d 11 97 [l0, l1, l2, l3, l4, l5, l6] (st) M Q = WP d 11 98 [l0, l1, l2, l3, l4, l5, l6] (vi 1 :: st) M Q := w_iconst mC_11 d11_97 (by decide)
theorem d11_98 : decode cX3_joined 98 = .ok (.iadd, 1) := by decide +kernel
theorem k11_98 {d : Nat} {l0 l1 l2 l3 l4 l5 l6 : Option PV} {st : List PV} {M : Mem} {Q : Option PV → Mem → Prop} {x y : Int32} : WP d 11 98 [l0, l1, l2, l3, l4, l5, l6] (vi y :: vi x :: st) M Q = WP d 11 99 [l0, l1, l2, l3, l4, l5, l6] (vi (x + y) :: st) M Q := w1 mC_11 d11_98 rfl rfl
theorem d11_99 : decode cX3_joined 99 = .ok (.iload_n 2, 1) := by decide +kernel
theorem k11_99 {d : Nat} {x : Int32} {l0 l1 l3 l4 l5 l6 : Option PV} {st : List PV} {M : Mem} {Q : Option PV → Mem → Prop} : WP d 11 99 [l0, l1, some (vi x), l3, l4, l5, l6] (st) M Q = WP d 11 100 [l0, l1, some (vi x), l3, l4, l5, l6] (vi x :: st) M Q := w1 mC_11 d11_99 rfl rfl
theorem d11_100 : decode cX3_joined 100 = .ok (.invokevirtual 51, 3) := by decide +kernel
theorem k11_100 {d : Nat} {l0 l1 l2 l3 l4 l5 l6 : Option PV} {st : List PV} {M : Mem} {Q : Option PV → Mem → Prop} {a0 a1 : Int32} {r : Nat} (hl : szL st ≤ 8) (hk : mK M r = 3) : WP (d + 1) 11 100 [l0, l1, l2, l3, l4, l5, l6] (vi a1 :: vi a0 :: vr r :: st) M Q = WP d 11 0 [some (vr r), some (vi a0), some (vi a1), none, none, none, none] [] M (fun v M' => WP (d + 1) 11 103 [l0, l1, l2, l3, l4, l5, l6] (psh v st) M' Q) := w_callV mC_11 d11_100 (ci := 3) rfl rfl rfl (Nat.le_of_ble_eq_true rfl) (by decide) rfl hl (Or.inl hk)
theorem d11_103 : decode cX3_joined 103 = .ok (.ifCond .eq 17, 3) := by decide +kernel
theorem k11_103 {d : Nat} {l0 l1 l2 l3 l4 l5 l6 : Option PV} {st : List PV} {M : Mem} {Q : Option PV → Mem → Prop} {x : Int32} : WP d 11 103 [l0, l1, l2, l3, l4, l5, l6] (vi x :: st) M Q = (if x = 0 then WP d 11 120 [l0, l1, l2, l3, l4, l5, l6] (st) M Q else WP d 11 106 [l0, l1, l2, l3, l4, l5, l6] (st) M Q) := w_if_eq mC_11 d11_103 (by decide)
theorem d11_106 : decode cX3_joined 106 = .ok (.aload_n 0, 1) := by decide +kernel
theorem k11_106 {d x : Nat} {l1 l2 l3 l4 l5 l6 : Option PV} {st : List PV} {M : Mem} {Q : Option PV → Mem → Prop} : WP d 11 106 [some (vr x), l1, l2, l3, l4, l5, l6] (st) M Q = WP d 11 107 [some (vr x), l1, l2, l3, l4, l5, l6] (vr x :: st) M Q := w1 mC_11 d11_106 rfl rfl
theorem d11_107 : decode cX3_joined 107 = .ok (.iload 6, 2) := by decide +kernel
theorem k11_107 {d : Nat} {x : Int32} {l0 l1 l2 l3 l4 l5 : Option PV} {st : List PV} {M : Mem} {Q : Option PV → Mem → Prop} : WP d 11 107 [l0, l1, l2, l3, l4, l5, some (vi x)] (st) M Q = WP d 11 109 [l0, l1, l2, l3, l4, l5, some (vi x)] (vi x :: st) M Q := w1 mC_11 d11_107 rfl rfl
theorem d11_109 : decode cX3_joined 109 = .ok (.iconst 0, 1) := by decide +kernel
theorem k11_109 {d : Nat} {l0 l1 l2 l3 l4 l5 l6 : Option PV} {st : List PV} {M : Mem} {Q : Option PV → Mem → Prop} : WP d 11 109 [l0, l1, l2, l3, l4, l5, l6] (st) M Q = WP d 11 110 [l0, l1, l2, l3, l4, l5, l6] (vi 0 :: st) M Q := w_iconst mC_11 d11_109 (by decide)
theorem d11_110 : decode cX3_joined 110 = .ok (.invokevirtual 55, 3) := by decide +kernel
theorem k11_110 {d : Nat} {l0 l1 l2 l3 l4 l5 l6 : Option PV} {st : List PV} {M : Mem} {Q : Option PV → Mem → Prop} {a0 a1 : Int32} {r : Nat} (hl : szL st ≤ 8) (hk : mK M r = 3) : WP (d + 1) 11 110 [l0, l1, l2, l3, l4, l5, l6] (vi a1 :: vi a0 :: vr r :: st) M Q = WP d 18 0 [some (vr r), some (vi a0), some (vi a1)] [] M (fun v M' => WP (d + 1) 11 113 [l0, l1, l2, l3, l4, l5, l6] (psh v st) M' Q) := w_callV mC_11 d11_110 (ci := 3) rfl rfl rfl (Nat.le_of_ble_eq_true rfl) (by decide) rfl hl (Or.inl hk)
theorem d11_113 : decode cX3_joined 113 = .ok (.ifCond .eq 7, 3) := by decide +kernel
theorem k11_113 {d : Nat} {l0 l1 l2 l3 l4 l5 l6 : Option PV} {st : List PV} {M : Mem} {Q : Option PV → Mem → Prop} {x : Int32} : WP d 11 113 [l0, l1, l2, l3, l4, l5, l6] (vi x :: st) M Q = (if x = 0 then WP d 11 120 [l0, l1, l2, l3, l4, l5, l6] (st) M Q else WP d 11 116 [l0, l1, l2, l3, l4, l5, l6] (st) M Q) := w_if_eq mC_11 d11_113 (by decide)
theorem d11_116 : decode cX3_joined 116 = .ok (.iconst 1, 1) := by decide +kernel
theorem k11_116 {d : Nat} {l0 l1 l2 l3 l4 l5 l6 : Option PV} {st : List PV} {M : Mem} {Q : Option PV → Mem → Prop} : WP d 11 116 [l0, l1, l2, l3, l4, l5, l6] (st) M Q = WP d 11 117 [l0, l1, l2, l3, l4, l5, l6] (vi 1 :: st) M Q := w_iconst mC_11 d11_116 (by decide)
theorem d11_117 : decode cX3_joined 117 = .ok (.goto 4, 3) := by decide +kernel
theorem k11_117 {d : Nat} {l0 l1 l2 l3 l4 l5 l6 : Option PV} {st : List PV} {M : Mem} {Q : Option PV → Mem → Prop} : WP d 11 117 [l0, l1, l2, l3, l4, l5, l6] (st) M Q = WP d 11 121 [l0, l1, l2, l3, l4, l5, l6] (st) M Q := w_goto mC_11 d11_117 (by decide)
theorem d11_120 : decode cX3_joined 120 = .ok (.iconst 0, 1) := by decide +kernel
theorem k11_120 {d : Nat} {l0 l1 l2 l3 l4 l5 l6 : Option PV} {st : List PV} {M : Mem} {Q : Option PV → Mem → Prop} : WP d 11 120 [l0, l1, l2, l3, l4, l5, l6] (st) M Q = WP d 11 121 [l0, l1, l2, l3, l4, l5, l6] (vi 0 :: st) M Q := w_iconst mC_11 d11_120 (by decide)
theorem d11_121 : decode cX3_joined 121 = .ok (.istore_n 3, 1) := by decide +kernel
theorem k11_121 {d : Nat} {l0 l1 l2 l3 l4 l5 l6 : Option PV} {st : List PV} {M : Mem} {Q : Option PV → Mem → Prop} {x : Int32} : WP d 11 121 [l0, l1, l2, l3, l4, l5, l6] (vi x :: st) M Q = WP d 11 122 [l0, l1, l2, some (vi x), l4, l5, l6] (st) M Q := w1 mC_11 d11_121 rfl rfl
theorem d11_122 : decode cX3_joined 122 = .ok (.iinc 5 1, 3) := by decide +kernel
theorem k11_122 {d : Nat} {x : Int32} {l0 l1 l2 l3 l4 l6 : Option PV} {st : List PV} {M : Mem} {Q : Option PV → Mem → Prop} : WP d 11 122 [l0, l1, l2, l3, l4, some (vi x), l6] (st) M Q = WP d 11 125 [l0, l1, l2, l3, l4, some (vi (x + 1)), l6] (st) M Q := w_iinc mC_11 d11_122 rfl (by decide) rfl
theorem d11_125 : decode cX3_joined 125 = .ok (.goto (-89), 3) := by decide +kernel
theorem k11_125 {d : Nat} {l0 l1 l2 l3 l4 l5 l6 : Option PV} {st : List PV} {M : Mem} {Q : Option PV → Mem → Prop} : WP d 11 125 [l0, l1, l2, l3, l4, l5, l6] (st) M Q = WP d 11 36 [l0, l1, l2, l3, l4, l5, l6] (st) M Q := w_goto mC_11 d11_125 (by decide)
theorem d11_128 : decode cX3_joined 128 = .ok (.iload_n 3, 1) := by decide +kernel
theorem k11_128 {d : Nat} {x : Int32} {l0 l1 l2 l4 l5 l6 : Option PV} {st : List PV} {M : Mem} {Q : Option PV → Mem → Prop} : WP d 11 128 [l0, l1, l2, some (vi x), l4, l5, l6] (st) M Q = WP d 11 129 [l0, l1, l2, some (vi x), l4, l5, l6] (vi x :: st) M Q := w1 mC_11 d11_128 rfl rfl
theorem d11_129 : decode cX3_joined 129 = .ok (.ireturn, 1) := by decide +kernel
theorem k11_129 {d : Nat} {l0 l1 l2 l3 l4 l5 l6 : Option PV} {M : Mem} {Q : Option PV → Mem → Prop} {x : Int32} (hx : x = 0 ∨ x = 1) : WP d 11 129 [l0, l1, l2, l3, l4, l5, l6] ([vi x]) M Q = Q (some (vi x)) M := w_zret mC_11 d11_129 rfl hx
theorem d12_0 : decode cX3_levelOf 0 = .ok (.iload_n 0, 1) := by decide +kernel
theorem k12_0 {d : Nat} {x : Int32} {st : List PV} {M : Mem} {Q : Option PV → Mem → Prop} : WP d 12 0 [some (vi x)] (st) M Q = WP d 12 1 [some (vi x)] (vi x :: st) M Q := w1 mC_12 d12_0 rfl rfl
theorem d12_1 : decode cX3_levelOf 1 = .ok (.lookupswitch 101 #[(37, 99), (38, 93), (42, 99), (43, 97), (45, 97), (47, 99), (60, 95), (61, 95), (62, 95), (124, 91)], 91) := by decide +kernel
theorem k12_1c37 {d : Nat} {l0 : Option PV} {st : List PV} {M : Mem} {Q : Option PV → Mem → Prop} : WP d 12 1 [l0] (vi 37 :: st) M Q = WP d 12 100 [l0] (st) M Q := w_lsw mC_12 d12_1 (by decide +kernel)
theorem k12_1c38 {d : Nat} {l0 : Option PV} {st : List PV} {M : Mem} {Q : Option PV → Mem → Prop} : WP d 12 1 [l0] (vi 38 :: st) M Q = WP d 12 94 [l0] (st) M Q := w_lsw mC_12 d12_1 (by decide +kernel)
theorem k12_1c42 {d : Nat} {l0 : Option PV} {st : List PV} {M : Mem} {Q : Option PV → Mem → Prop} : WP d 12 1 [l0] (vi 42 :: st) M Q = WP d 12 100 [l0] (st) M Q := w_lsw mC_12 d12_1 (by decide +kernel)
theorem k12_1c43 {d : Nat} {l0 : Option PV} {st : List PV} {M : Mem} {Q : Option PV → Mem → Prop} : WP d 12 1 [l0] (vi 43 :: st) M Q = WP d 12 98 [l0] (st) M Q := w_lsw mC_12 d12_1 (by decide +kernel)
theorem k12_1c45 {d : Nat} {l0 : Option PV} {st : List PV} {M : Mem} {Q : Option PV → Mem → Prop} : WP d 12 1 [l0] (vi 45 :: st) M Q = WP d 12 98 [l0] (st) M Q := w_lsw mC_12 d12_1 (by decide +kernel)
theorem k12_1c47 {d : Nat} {l0 : Option PV} {st : List PV} {M : Mem} {Q : Option PV → Mem → Prop} : WP d 12 1 [l0] (vi 47 :: st) M Q = WP d 12 100 [l0] (st) M Q := w_lsw mC_12 d12_1 (by decide +kernel)
theorem k12_1c60 {d : Nat} {l0 : Option PV} {st : List PV} {M : Mem} {Q : Option PV → Mem → Prop} : WP d 12 1 [l0] (vi 60 :: st) M Q = WP d 12 96 [l0] (st) M Q := w_lsw mC_12 d12_1 (by decide +kernel)
theorem k12_1c61 {d : Nat} {l0 : Option PV} {st : List PV} {M : Mem} {Q : Option PV → Mem → Prop} : WP d 12 1 [l0] (vi 61 :: st) M Q = WP d 12 96 [l0] (st) M Q := w_lsw mC_12 d12_1 (by decide +kernel)
theorem k12_1c62 {d : Nat} {l0 : Option PV} {st : List PV} {M : Mem} {Q : Option PV → Mem → Prop} : WP d 12 1 [l0] (vi 62 :: st) M Q = WP d 12 96 [l0] (st) M Q := w_lsw mC_12 d12_1 (by decide +kernel)
theorem k12_1c124 {d : Nat} {l0 : Option PV} {st : List PV} {M : Mem} {Q : Option PV → Mem → Prop} : WP d 12 1 [l0] (vi 124 :: st) M Q = WP d 12 92 [l0] (st) M Q := w_lsw mC_12 d12_1 (by decide +kernel)
theorem k12_1 {d : Nat} {l0 : Option PV} {st : List PV} {M : Mem} {Q : Option PV → Mem → Prop} {x : Int32} (h0 : x ≠ 37) (h1 : x ≠ 38) (h2 : x ≠ 42) (h3 : x ≠ 43) (h4 : x ≠ 45) (h5 : x ≠ 47) (h6 : x ≠ 60) (h7 : x ≠ 61) (h8 : x ≠ 62) (h9 : x ≠ 124) : WP d 12 1 [l0] (vi x :: st) M Q = WP d 12 102 [l0] (st) M Q := w_lsw mC_12 d12_1 (by unfold lswt; rw [if_pos (by decide)]; rw [lv_osw h0 (by decide)]; rw [lv_osw h1 (by decide)]; rw [lv_osw h2 (by decide)]; rw [lv_osw h3 (by decide)]; rw [lv_osw h4 (by decide)]; rw [lv_osw h5 (by decide)]; rw [lv_osw h6 (by decide)]; rw [lv_osw h7 (by decide)]; rw [lv_osw h8 (by decide)]; rw [lv_osw h9 (by decide)]; exact (by decide : tgt 1 101 = some 102))
theorem d12_92 : decode cX3_levelOf 92 = .ok (.iconst 0, 1) := by decide +kernel
theorem k12_92 {d : Nat} {l0 : Option PV} {st : List PV} {M : Mem} {Q : Option PV → Mem → Prop} : WP d 12 92 [l0] (st) M Q = WP d 12 93 [l0] (vi 0 :: st) M Q := w_iconst mC_12 d12_92 (by decide)
theorem d12_93 : decode cX3_levelOf 93 = .ok (.ireturn, 1) := by decide +kernel
theorem k12_93 {d : Nat} {l0 : Option PV} {M : Mem} {Q : Option PV → Mem → Prop} {x : Int32} : WP d 12 93 [l0] ([vi x]) M Q = Q (some (vi x)) M := w_iret mC_12 d12_93 rfl
theorem d12_94 : decode cX3_levelOf 94 = .ok (.iconst 1, 1) := by decide +kernel
theorem k12_94 {d : Nat} {l0 : Option PV} {st : List PV} {M : Mem} {Q : Option PV → Mem → Prop} : WP d 12 94 [l0] (st) M Q = WP d 12 95 [l0] (vi 1 :: st) M Q := w_iconst mC_12 d12_94 (by decide)
theorem d12_95 : decode cX3_levelOf 95 = .ok (.ireturn, 1) := by decide +kernel
theorem k12_95 {d : Nat} {l0 : Option PV} {M : Mem} {Q : Option PV → Mem → Prop} {x : Int32} : WP d 12 95 [l0] ([vi x]) M Q = Q (some (vi x)) M := w_iret mC_12 d12_95 rfl
theorem d12_96 : decode cX3_levelOf 96 = .ok (.iconst 2, 1) := by decide +kernel
theorem k12_96 {d : Nat} {l0 : Option PV} {st : List PV} {M : Mem} {Q : Option PV → Mem → Prop} : WP d 12 96 [l0] (st) M Q = WP d 12 97 [l0] (vi 2 :: st) M Q := w_iconst mC_12 d12_96 (by decide)
theorem d12_97 : decode cX3_levelOf 97 = .ok (.ireturn, 1) := by decide +kernel
theorem k12_97 {d : Nat} {l0 : Option PV} {M : Mem} {Q : Option PV → Mem → Prop} {x : Int32} : WP d 12 97 [l0] ([vi x]) M Q = Q (some (vi x)) M := w_iret mC_12 d12_97 rfl
theorem d12_98 : decode cX3_levelOf 98 = .ok (.iconst 3, 1) := by decide +kernel
theorem k12_98 {d : Nat} {l0 : Option PV} {st : List PV} {M : Mem} {Q : Option PV → Mem → Prop} : WP d 12 98 [l0] (st) M Q = WP d 12 99 [l0] (vi 3 :: st) M Q := w_iconst mC_12 d12_98 (by decide)
theorem d12_99 : decode cX3_levelOf 99 = .ok (.ireturn, 1) := by decide +kernel
theorem k12_99 {d : Nat} {l0 : Option PV} {M : Mem} {Q : Option PV → Mem → Prop} {x : Int32} : WP d 12 99 [l0] ([vi x]) M Q = Q (some (vi x)) M := w_iret mC_12 d12_99 rfl
theorem d12_100 : decode cX3_levelOf 100 = .ok (.iconst 4, 1) := by decide +kernel
theorem k12_100 {d : Nat} {l0 : Option PV} {st : List PV} {M : Mem} {Q : Option PV → Mem → Prop} : WP d 12 100 [l0] (st) M Q = WP d 12 101 [l0] (vi 4 :: st) M Q := w_iconst mC_12 d12_100 (by decide)
theorem d12_101 : decode cX3_levelOf 101 = .ok (.ireturn, 1) := by decide +kernel
theorem k12_101 {d : Nat} {l0 : Option PV} {M : Mem} {Q : Option PV → Mem → Prop} {x : Int32} : WP d 12 101 [l0] ([vi x]) M Q = Q (some (vi x)) M := w_iret mC_12 d12_101 rfl
theorem d12_102 : decode cX3_levelOf 102 = .ok (.iconst 5, 1) := by decide +kernel
theorem k12_102 {d : Nat} {l0 : Option PV} {st : List PV} {M : Mem} {Q : Option PV → Mem → Prop} : WP d 12 102 [l0] (st) M Q = WP d 12 103 [l0] (vi 5 :: st) M Q := w_iconst mC_12 d12_102 (by decide)
theorem d12_103 : decode cX3_levelOf 103 = .ok (.ireturn, 1) := by decide +kernel
theorem k12_103 {d : Nat} {l0 : Option PV} {M : Mem} {Q : Option PV → Mem → Prop} {x : Int32} : WP d 12 103 [l0] ([vi x]) M Q = Q (some (vi x)) M := w_iret mC_12 d12_103 rfl
theorem d13_0 : decode cX3_operand 0 = .ok (.aload_n 0, 1) := by decide +kernel
theorem k13_0 {d x : Nat} {l1 : Option PV} {st : List PV} {M : Mem} {Q : Option PV → Mem → Prop} : WP d 13 0 [some (vr x), l1] (st) M Q = WP d 13 1 [some (vr x), l1] (vr x :: st) M Q := w1 mC_13 d13_0 rfl rfl
theorem d13_1 : decode cX3_operand 1 = .ok (.invokevirtual 65, 3) := by decide +kernel
theorem k13_1 {d : Nat} {l0 l1 : Option PV} {st : List PV} {M : Mem} {Q : Option PV → Mem → Prop} {r : Nat} (hl : szL st ≤ 8) (hk : mK M r = 3) : WP (d + 1) 13 1 [l0, l1] (vr r :: st) M Q = WP d 15 0 [some (vr r)] [] M (fun v M' => WP (d + 1) 13 4 [l0, l1] (psh v st) M' Q) := w_callV mC_13 d13_1 (ci := 3) rfl rfl rfl (Nat.le_of_ble_eq_true rfl) (by decide) rfl hl (Or.inl hk)
theorem d13_4 : decode cX3_operand 4 = .ok (.ifCond .eq 8, 3) := by decide +kernel
theorem k13_4 {d : Nat} {l0 l1 : Option PV} {st : List PV} {M : Mem} {Q : Option PV → Mem → Prop} {x : Int32} : WP d 13 4 [l0, l1] (vi x :: st) M Q = (if x = 0 then WP d 13 12 [l0, l1] (st) M Q else WP d 13 7 [l0, l1] (st) M Q) := w_if_eq mC_13 d13_4 (by decide)
theorem d13_7 : decode cX3_operand 7 = .ok (.aload_n 0, 1) := by decide +kernel
theorem k13_7 {d x : Nat} {l1 : Option PV} {st : List PV} {M : Mem} {Q : Option PV → Mem → Prop} : WP d 13 7 [some (vr x), l1] (st) M Q = WP d 13 8 [some (vr x), l1] (vr x :: st) M Q := w1 mC_13 d13_7 rfl rfl
theorem d13_8 : decode cX3_operand 8 = .ok (.invokevirtual 68, 3) := by decide +kernel
theorem k13_8 {d : Nat} {l0 l1 : Option PV} {st : List PV} {M : Mem} {Q : Option PV → Mem → Prop} {r : Nat} (hl : szL st ≤ 8) (hk : mK M r = 3) : WP (d + 1) 13 8 [l0, l1] (vr r :: st) M Q = WP d 14 0 [some (vr r), none, none] [] M (fun v M' => WP (d + 1) 13 11 [l0, l1] (psh v st) M' Q) := w_callV mC_13 d13_8 (ci := 3) rfl rfl rfl (Nat.le_of_ble_eq_true rfl) (by decide) rfl hl (Or.inl hk)
theorem d13_11 : decode cX3_operand 11 = .ok (.ireturn, 1) := by decide +kernel
theorem k13_11 {d : Nat} {l0 l1 : Option PV} {M : Mem} {Q : Option PV → Mem → Prop} {x : Int32} (hx : x = 0 ∨ x = 1) : WP d 13 11 [l0, l1] ([vi x]) M Q = Q (some (vi x)) M := w_zret mC_13 d13_11 rfl hx
theorem d13_12 : decode cX3_operand 12 = .ok (.aload_n 0, 1) := by decide +kernel
theorem k13_12 {d x : Nat} {l1 : Option PV} {st : List PV} {M : Mem} {Q : Option PV → Mem → Prop} : WP d 13 12 [some (vr x), l1] (st) M Q = WP d 13 13 [some (vr x), l1] (vr x :: st) M Q := w1 mC_13 d13_12 rfl rfl
theorem d13_13 : decode cX3_operand 13 = .ok (.getfield 40, 3) := by decide +kernel
theorem k13_13 {d : Nat} {l0 l1 : Option PV} {st : List PV} {M : Mem} {Q : Option PV → Mem → Prop} {r : Nat} (hk : mK M r = 3) : WP d 13 13 [l0, l1] (vr r :: st) M Q = WP d 13 16 [l0, l1] (vi (mI M r 8) :: st) M Q := w_get mC_13 d13_13 fE_3_40 rfl (by rw [hk]; rfl)
theorem d13_16 : decode cX3_operand 16 = .ok (.aload_n 0, 1) := by decide +kernel
theorem k13_16 {d x : Nat} {l1 : Option PV} {st : List PV} {M : Mem} {Q : Option PV → Mem → Prop} : WP d 13 16 [some (vr x), l1] (st) M Q = WP d 13 17 [some (vr x), l1] (vr x :: st) M Q := w1 mC_13 d13_16 rfl rfl
theorem d13_17 : decode cX3_operand 17 = .ok (.getfield 37, 3) := by decide +kernel
theorem k13_17 {d : Nat} {l0 l1 : Option PV} {st : List PV} {M : Mem} {Q : Option PV → Mem → Prop} {r : Nat} (hk : mK M r = 3) : WP d 13 17 [l0, l1] (vr r :: st) M Q = WP d 13 20 [l0, l1] (vi (mI M r 7) :: st) M Q := w_get mC_13 d13_17 fE_3_37 rfl (by rw [hk]; rfl)
theorem d13_20 : decode cX3_operand 20 = .ok (.if_icmp .ge 49, 3) := by decide +kernel
theorem k13_20 {d : Nat} {l0 l1 : Option PV} {st : List PV} {M : Mem} {Q : Option PV → Mem → Prop} {x y : Int32} : WP d 13 20 [l0, l1] (vi y :: vi x :: st) M Q = (if y ≤ x then WP d 13 69 [l0, l1] (st) M Q else WP d 13 23 [l0, l1] (st) M Q) := w_ic_ge mC_13 d13_20 (by decide)
theorem d13_23 : decode cX3_operand 23 = .ok (.aload_n 0, 1) := by decide +kernel
theorem k13_23 {d x : Nat} {l1 : Option PV} {st : List PV} {M : Mem} {Q : Option PV → Mem → Prop} : WP d 13 23 [some (vr x), l1] (st) M Q = WP d 13 24 [some (vr x), l1] (vr x :: st) M Q := w1 mC_13 d13_23 rfl rfl
theorem d13_24 : decode cX3_operand 24 = .ok (.getfield 28, 3) := by decide +kernel
theorem k13_24 {d : Nat} {l0 l1 : Option PV} {st : List PV} {M : Mem} {Q : Option PV → Mem → Prop} {r : Nat} (hk : mK M r = 3) : WP d 13 24 [l0, l1] (vr r :: st) M Q = WP d 13 27 [l0, l1] (vr (mR M r 6) :: st) M Q := w_getr mC_13 d13_24 fE_3_28 rfl (by rw [hk]; rfl)
theorem d13_27 : decode cX3_operand 27 = .ok (.aload_n 0, 1) := by decide +kernel
theorem k13_27 {d x : Nat} {l1 : Option PV} {st : List PV} {M : Mem} {Q : Option PV → Mem → Prop} : WP d 13 27 [some (vr x), l1] (st) M Q = WP d 13 28 [some (vr x), l1] (vr x :: st) M Q := w1 mC_13 d13_27 rfl rfl
theorem d13_28 : decode cX3_operand 28 = .ok (.getfield 40, 3) := by decide +kernel
theorem k13_28 {d : Nat} {l0 l1 : Option PV} {st : List PV} {M : Mem} {Q : Option PV → Mem → Prop} {r : Nat} (hk : mK M r = 3) : WP d 13 28 [l0, l1] (vr r :: st) M Q = WP d 13 31 [l0, l1] (vi (mI M r 8) :: st) M Q := w_get mC_13 d13_28 fE_3_40 rfl (by rw [hk]; rfl)
theorem d13_31 : decode cX3_operand 31 = .ok (.iaload, 1) := by decide +kernel
theorem k13_31 {d : Nat} {l0 l1 : Option PV} {st : List PV} {M : Mem} {Q : Option PV → Mem → Prop} {r : Nat} {j : Int32} (hk : mK M r = 13) (hj : inb j (mN M r)) (_h1 : r ≠ 1) : WP d 13 31 [l0, l1] (vi j :: vr r :: st) M Q = WP d 13 32 [l0, l1] (vi (mI M r (ix j)) :: st) M Q := w_iald mC_13 d13_31 hk hj
theorem d13_32 : decode cX3_operand 32 = .ok (.invokestatic 71, 3) := by decide +kernel
theorem k13_32 {d : Nat} {l0 l1 : Option PV} {st : List PV} {M : Mem} {Q : Option PV → Mem → Prop} {a0 : Int32} (hl : szL st ≤ 8) : WP (d + 1) 13 32 [l0, l1] (vi a0 :: st) M Q = WP d 16 0 [some (vi a0)] [] M (fun v M' => WP (d + 1) 13 35 [l0, l1] (psh v st) M' Q) := w_callS mC_13 d13_32 rfl rfl (Nat.le_of_ble_eq_true rfl) (by decide) rfl hl
theorem d13_35 : decode cX3_operand 35 = .ok (.ifCond .lt 34, 3) := by decide +kernel
theorem k13_35 {d : Nat} {l0 l1 : Option PV} {st : List PV} {M : Mem} {Q : Option PV → Mem → Prop} {x : Int32} : WP d 13 35 [l0, l1] (vi x :: st) M Q = (if x < 0 then WP d 13 69 [l0, l1] (st) M Q else WP d 13 38 [l0, l1] (st) M Q) := w_if_lt mC_13 d13_35 (by decide)
theorem d13_38 : decode cX3_operand 38 = .ok (.aload_n 0, 1) := by decide +kernel
theorem k13_38 {d x : Nat} {l1 : Option PV} {st : List PV} {M : Mem} {Q : Option PV → Mem → Prop} : WP d 13 38 [some (vr x), l1] (st) M Q = WP d 13 39 [some (vr x), l1] (vr x :: st) M Q := w1 mC_13 d13_38 rfl rfl
theorem d13_39 : decode cX3_operand 39 = .ok (.bipush 110, 2) := by decide +kernel
theorem k13_39 {d : Nat} {l0 l1 : Option PV} {st : List PV} {M : Mem} {Q : Option PV → Mem → Prop} : WP d 13 39 [l0, l1] (st) M Q = WP d 13 41 [l0, l1] (vi 110 :: st) M Q := w_bipush mC_13 d13_39 (by decide)
theorem d13_41 : decode cX3_operand 41 = .ok (.aload_n 0, 1) := by decide +kernel
theorem k13_41 {d x : Nat} {l1 : Option PV} {st : List PV} {M : Mem} {Q : Option PV → Mem → Prop} : WP d 13 41 [some (vr x), l1] (st) M Q = WP d 13 42 [some (vr x), l1] (vr x :: st) M Q := w1 mC_13 d13_41 rfl rfl
theorem d13_42 : decode cX3_operand 42 = .ok (.getfield 28, 3) := by decide +kernel
theorem k13_42 {d : Nat} {l0 l1 : Option PV} {st : List PV} {M : Mem} {Q : Option PV → Mem → Prop} {r : Nat} (hk : mK M r = 3) : WP d 13 42 [l0, l1] (vr r :: st) M Q = WP d 13 45 [l0, l1] (vr (mR M r 6) :: st) M Q := w_getr mC_13 d13_42 fE_3_28 rfl (by rw [hk]; rfl)
theorem d13_45 : decode cX3_operand 45 = .ok (.aload_n 0, 1) := by decide +kernel
theorem k13_45 {d x : Nat} {l1 : Option PV} {st : List PV} {M : Mem} {Q : Option PV → Mem → Prop} : WP d 13 45 [some (vr x), l1] (st) M Q = WP d 13 46 [some (vr x), l1] (vr x :: st) M Q := w1 mC_13 d13_45 rfl rfl
theorem d13_46 : decode cX3_operand 46 = .ok (.getfield 40, 3) := by decide +kernel
theorem k13_46 {d : Nat} {l0 l1 : Option PV} {st : List PV} {M : Mem} {Q : Option PV → Mem → Prop} {r : Nat} (hk : mK M r = 3) : WP d 13 46 [l0, l1] (vr r :: st) M Q = WP d 13 49 [l0, l1] (vi (mI M r 8) :: st) M Q := w_get mC_13 d13_46 fE_3_40 rfl (by rw [hk]; rfl)
theorem d13_49 : decode cX3_operand 49 = .ok (.iaload, 1) := by decide +kernel
theorem k13_49 {d : Nat} {l0 l1 : Option PV} {st : List PV} {M : Mem} {Q : Option PV → Mem → Prop} {r : Nat} {j : Int32} (hk : mK M r = 13) (hj : inb j (mN M r)) (_h1 : r ≠ 1) : WP d 13 49 [l0, l1] (vi j :: vr r :: st) M Q = WP d 13 50 [l0, l1] (vi (mI M r (ix j)) :: st) M Q := w_iald mC_13 d13_49 hk hj
theorem d13_50 : decode cX3_operand 50 = .ok (.invokestatic 71, 3) := by decide +kernel
theorem k13_50 {d : Nat} {l0 l1 : Option PV} {st : List PV} {M : Mem} {Q : Option PV → Mem → Prop} {a0 : Int32} (hl : szL st ≤ 8) : WP (d + 1) 13 50 [l0, l1] (vi a0 :: st) M Q = WP d 16 0 [some (vi a0)] [] M (fun v M' => WP (d + 1) 13 53 [l0, l1] (psh v st) M' Q) := w_callS mC_13 d13_50 rfl rfl (Nat.le_of_ble_eq_true rfl) (by decide) rfl hl
theorem d13_53 : decode cX3_operand 53 = .ok (.invokevirtual 55, 3) := by decide +kernel
theorem k13_53 {d : Nat} {l0 l1 : Option PV} {st : List PV} {M : Mem} {Q : Option PV → Mem → Prop} {a0 a1 : Int32} {r : Nat} (hl : szL st ≤ 8) (hk : mK M r = 3) : WP (d + 1) 13 53 [l0, l1] (vi a1 :: vi a0 :: vr r :: st) M Q = WP d 18 0 [some (vr r), some (vi a0), some (vi a1)] [] M (fun v M' => WP (d + 1) 13 56 [l0, l1] (psh v st) M' Q) := w_callV mC_13 d13_53 (ci := 3) rfl rfl rfl (Nat.le_of_ble_eq_true rfl) (by decide) rfl hl (Or.inl hk)
theorem d13_56 : decode cX3_operand 56 = .ok (.pop, 1) := by decide +kernel
theorem k13_56 {d : Nat} {l0 l1 : Option PV} {st : List PV} {M : Mem} {Q : Option PV → Mem → Prop} {x : Nat} : WP d 13 56 [l0, l1] (vr x :: st) M Q = WP d 13 57 [l0, l1] (st) M Q := w1 mC_13 d13_56 rfl rfl
theorem k13_56i {d : Nat} {l0 l1 : Option PV} {st : List PV} {M : Mem} {Q : Option PV → Mem → Prop} {x : Int32} : WP d 13 56 [l0, l1] (vi x :: st) M Q = WP d 13 57 [l0, l1] (st) M Q := w1 mC_13 d13_56 rfl rfl
theorem d13_57 : decode cX3_operand 57 = .ok (.aload_n 0, 1) := by decide +kernel
theorem k13_57 {d x : Nat} {l1 : Option PV} {st : List PV} {M : Mem} {Q : Option PV → Mem → Prop} : WP d 13 57 [some (vr x), l1] (st) M Q = WP d 13 58 [some (vr x), l1] (vr x :: st) M Q := w1 mC_13 d13_57 rfl rfl
theorem d13_58 : decode cX3_operand 58 = .ok (.dup, 1) := by decide +kernel
theorem k13_58 {d : Nat} {l0 l1 : Option PV} {st : List PV} {M : Mem} {Q : Option PV → Mem → Prop} {x : Nat} : WP d 13 58 [l0, l1] (vr x :: st) M Q = WP d 13 59 [l0, l1] (vr x :: vr x :: st) M Q := w1 mC_13 d13_58 rfl rfl
theorem k13_58i {d : Nat} {l0 l1 : Option PV} {st : List PV} {M : Mem} {Q : Option PV → Mem → Prop} {x : Int32} : WP d 13 58 [l0, l1] (vi x :: st) M Q = WP d 13 59 [l0, l1] (vi x :: vi x :: st) M Q := w1 mC_13 d13_58 rfl rfl
theorem d13_59 : decode cX3_operand 59 = .ok (.getfield 40, 3) := by decide +kernel
theorem k13_59 {d : Nat} {l0 l1 : Option PV} {st : List PV} {M : Mem} {Q : Option PV → Mem → Prop} {r : Nat} (hk : mK M r = 3) : WP d 13 59 [l0, l1] (vr r :: st) M Q = WP d 13 62 [l0, l1] (vi (mI M r 8) :: st) M Q := w_get mC_13 d13_59 fE_3_40 rfl (by rw [hk]; rfl)
theorem d13_62 : decode cX3_operand 62 = .ok (.iconst 1, 1) := by decide +kernel
theorem k13_62 {d : Nat} {l0 l1 : Option PV} {st : List PV} {M : Mem} {Q : Option PV → Mem → Prop} : WP d 13 62 [l0, l1] (st) M Q = WP d 13 63 [l0, l1] (vi 1 :: st) M Q := w_iconst mC_13 d13_62 (by decide)
theorem d13_63 : decode cX3_operand 63 = .ok (.iadd, 1) := by decide +kernel
theorem k13_63 {d : Nat} {l0 l1 : Option PV} {st : List PV} {M : Mem} {Q : Option PV → Mem → Prop} {x y : Int32} : WP d 13 63 [l0, l1] (vi y :: vi x :: st) M Q = WP d 13 64 [l0, l1] (vi (x + y) :: st) M Q := w1 mC_13 d13_63 rfl rfl
theorem d13_64 : decode cX3_operand 64 = .ok (.putfield 40, 3) := by decide +kernel
theorem k13_64 {d : Nat} {l0 l1 : Option PV} {st : List PV} {M : Mem} {Q : Option PV → Mem → Prop} {r : Nat} {x : Int32} (hk : mK M r = 3) : WP d 13 64 [l0, l1] (vi x :: vr r :: st) M Q = WP d 13 67 [l0, l1] (st) (sI M r 8 x) Q := w_put mC_13 d13_64 fE_3_40 (by decide +kernel) (by rw [hk]; rfl)
theorem d13_67 : decode cX3_operand 67 = .ok (.iconst 1, 1) := by decide +kernel
theorem k13_67 {d : Nat} {l0 l1 : Option PV} {st : List PV} {M : Mem} {Q : Option PV → Mem → Prop} : WP d 13 67 [l0, l1] (st) M Q = WP d 13 68 [l0, l1] (vi 1 :: st) M Q := w_iconst mC_13 d13_67 (by decide)
theorem d13_68 : decode cX3_operand 68 = .ok (.ireturn, 1) := by decide +kernel
theorem k13_68 {d : Nat} {l0 l1 : Option PV} {M : Mem} {Q : Option PV → Mem → Prop} {x : Int32} (hx : x = 0 ∨ x = 1) : WP d 13 68 [l0, l1] ([vi x]) M Q = Q (some (vi x)) M := w_zret mC_13 d13_68 rfl hx
theorem d13_69 : decode cX3_operand 69 = .ok (.iload_n 1, 1) := by decide +kernel
theorem k13_69 {d : Nat} {x : Int32} {l0 : Option PV} {st : List PV} {M : Mem} {Q : Option PV → Mem → Prop} : WP d 13 69 [l0, some (vi x)] (st) M Q = WP d 13 70 [l0, some (vi x)] (vi x :: st) M Q := w1 mC_13 d13_69 rfl rfl
theorem d13_70 : decode cX3_operand 70 = .ok (.bipush 6, 2) := by decide +kernel
theorem k13_70 {d : Nat} {l0 l1 : Option PV} {st : List PV} {M : Mem} {Q : Option PV → Mem → Prop} : WP d 13 70 [l0, l1] (st) M Q = WP d 13 72 [l0, l1] (vi 6 :: st) M Q := w_bipush mC_13 d13_70 (by decide)
theorem d13_72 : decode cX3_operand 72 = .ok (.if_icmp .lt 5, 3) := by decide +kernel
theorem k13_72 {d : Nat} {l0 l1 : Option PV} {st : List PV} {M : Mem} {Q : Option PV → Mem → Prop} {x y : Int32} : WP d 13 72 [l0, l1] (vi y :: vi x :: st) M Q = (if x < y then WP d 13 77 [l0, l1] (st) M Q else WP d 13 75 [l0, l1] (st) M Q) := w_ic_lt mC_13 d13_72 (by decide)
theorem d13_75 : decode cX3_operand 75 = .ok (.iconst 0, 1) := by decide +kernel
theorem k13_75 {d : Nat} {l0 l1 : Option PV} {st : List PV} {M : Mem} {Q : Option PV → Mem → Prop} : WP d 13 75 [l0, l1] (st) M Q = WP d 13 76 [l0, l1] (vi 0 :: st) M Q := w_iconst mC_13 d13_75 (by decide)
theorem d13_76 : decode cX3_operand 76 = .ok (.ireturn, 1) := by decide +kernel
theorem k13_76 {d : Nat} {l0 l1 : Option PV} {M : Mem} {Q : Option PV → Mem → Prop} {x : Int32} (hx : x = 0 ∨ x = 1) : WP d 13 76 [l0, l1] ([vi x]) M Q = Q (some (vi x)) M := w_zret mC_13 d13_76 rfl hx
theorem d13_77 : decode cX3_operand 77 = .ok (.aload_n 0, 1) := by decide +kernel
theorem k13_77 {d x : Nat} {l1 : Option PV} {st : List PV} {M : Mem} {Q : Option PV → Mem → Prop} : WP d 13 77 [some (vr x), l1] (st) M Q = WP d 13 78 [some (vr x), l1] (vr x :: st) M Q := w1 mC_13 d13_77 rfl rfl
theorem d13_78 : decode cX3_operand 78 = .ok (.bipush 40, 2) := by decide +kernel
theorem k13_78 {d : Nat} {l0 l1 : Option PV} {st : List PV} {M : Mem} {Q : Option PV → Mem → Prop} : WP d 13 78 [l0, l1] (st) M Q = WP d 13 80 [l0, l1] (vi 40 :: st) M Q := w_bipush mC_13 d13_78 (by decide)
theorem d13_80 : decode cX3_operand 80 = .ok (.invokevirtual 47, 3) := by decide +kernel
theorem k13_80 {d : Nat} {l0 l1 : Option PV} {st : List PV} {M : Mem} {Q : Option PV → Mem → Prop} {a0 : Int32} {r : Nat} (hl : szL st ≤ 8) (hk : mK M r = 3) : WP (d + 1) 13 80 [l0, l1] (vi a0 :: vr r :: st) M Q = WP d 17 0 [some (vr r), some (vi a0)] [] M (fun v M' => WP (d + 1) 13 83 [l0, l1] (psh v st) M' Q) := w_callV mC_13 d13_80 (ci := 3) rfl rfl rfl (Nat.le_of_ble_eq_true rfl) (by decide) rfl hl (Or.inl hk)
theorem d13_83 : decode cX3_operand 83 = .ok (.ifCond .eq 29, 3) := by decide +kernel
theorem k13_83 {d : Nat} {l0 l1 : Option PV} {st : List PV} {M : Mem} {Q : Option PV → Mem → Prop} {x : Int32} : WP d 13 83 [l0, l1] (vi x :: st) M Q = (if x = 0 then WP d 13 112 [l0, l1] (st) M Q else WP d 13 86 [l0, l1] (st) M Q) := w_if_eq mC_13 d13_83 (by decide)
theorem d13_86 : decode cX3_operand 86 = .ok (.aload_n 0, 1) := by decide +kernel
theorem k13_86 {d x : Nat} {l1 : Option PV} {st : List PV} {M : Mem} {Q : Option PV → Mem → Prop} : WP d 13 86 [some (vr x), l1] (st) M Q = WP d 13 87 [some (vr x), l1] (vr x :: st) M Q := w1 mC_13 d13_86 rfl rfl
theorem d13_87 : decode cX3_operand 87 = .ok (.iconst 0, 1) := by decide +kernel
theorem k13_87 {d : Nat} {l0 l1 : Option PV} {st : List PV} {M : Mem} {Q : Option PV → Mem → Prop} : WP d 13 87 [l0, l1] (st) M Q = WP d 13 88 [l0, l1] (vi 0 :: st) M Q := w_iconst mC_13 d13_87 (by decide)
theorem d13_88 : decode cX3_operand 88 = .ok (.iload_n 1, 1) := by decide +kernel
theorem k13_88 {d : Nat} {x : Int32} {l0 : Option PV} {st : List PV} {M : Mem} {Q : Option PV → Mem → Prop} : WP d 13 88 [l0, some (vi x)] (st) M Q = WP d 13 89 [l0, some (vi x)] (vi x :: st) M Q := w1 mC_13 d13_88 rfl rfl
theorem d13_89 : decode cX3_operand 89 = .ok (.iconst 1, 1) := by decide +kernel
theorem k13_89 {d : Nat} {l0 l1 : Option PV} {st : List PV} {M : Mem} {Q : Option PV → Mem → Prop} : WP d 13 89 [l0, l1] (st) M Q = WP d 13 90 [l0, l1] (vi 1 :: st) M Q := w_iconst mC_13 d13_89 (by decide)
theorem d13_90 : decode cX3_operand 90 = .ok (.iadd, 1) := by decide +kernel
theorem k13_90 {d : Nat} {l0 l1 : Option PV} {st : List PV} {M : Mem} {Q : Option PV → Mem → Prop} {x y : Int32} : WP d 13 90 [l0, l1] (vi y :: vi x :: st) M Q = WP d 13 91 [l0, l1] (vi (x + y) :: st) M Q := w1 mC_13 d13_90 rfl rfl
theorem d13_91 : decode cX3_operand 91 = .ok (.invokevirtual 51, 3) := by decide +kernel
theorem k13_91 {d : Nat} {l0 l1 : Option PV} {st : List PV} {M : Mem} {Q : Option PV → Mem → Prop} {a0 a1 : Int32} {r : Nat} (hl : szL st ≤ 8) (hk : mK M r = 3) : WP (d + 1) 13 91 [l0, l1] (vi a1 :: vi a0 :: vr r :: st) M Q = WP d 11 0 [some (vr r), some (vi a0), some (vi a1), none, none, none, none] [] M (fun v M' => WP (d + 1) 13 94 [l0, l1] (psh v st) M' Q) := w_callV mC_13 d13_91 (ci := 3) rfl rfl rfl (Nat.le_of_ble_eq_true rfl) (by decide) rfl hl (Or.inl hk)
theorem d13_94 : decode cX3_operand 94 = .ok (.ifCond .eq 16, 3) := by decide +kernel
theorem k13_94 {d : Nat} {l0 l1 : Option PV} {st : List PV} {M : Mem} {Q : Option PV → Mem → Prop} {x : Int32} : WP d 13 94 [l0, l1] (vi x :: st) M Q = (if x = 0 then WP d 13 110 [l0, l1] (st) M Q else WP d 13 97 [l0, l1] (st) M Q) := w_if_eq mC_13 d13_94 (by decide)
theorem d13_97 : decode cX3_operand 97 = .ok (.aload_n 0, 1) := by decide +kernel
theorem k13_97 {d x : Nat} {l1 : Option PV} {st : List PV} {M : Mem} {Q : Option PV → Mem → Prop} : WP d 13 97 [some (vr x), l1] (st) M Q = WP d 13 98 [some (vr x), l1] (vr x :: st) M Q := w1 mC_13 d13_97 rfl rfl
theorem d13_98 : decode cX3_operand 98 = .ok (.bipush 41, 2) := by decide +kernel
theorem k13_98 {d : Nat} {l0 l1 : Option PV} {st : List PV} {M : Mem} {Q : Option PV → Mem → Prop} : WP d 13 98 [l0, l1] (st) M Q = WP d 13 100 [l0, l1] (vi 41 :: st) M Q := w_bipush mC_13 d13_98 (by decide)
theorem d13_100 : decode cX3_operand 100 = .ok (.invokevirtual 47, 3) := by decide +kernel
theorem k13_100 {d : Nat} {l0 l1 : Option PV} {st : List PV} {M : Mem} {Q : Option PV → Mem → Prop} {a0 : Int32} {r : Nat} (hl : szL st ≤ 8) (hk : mK M r = 3) : WP (d + 1) 13 100 [l0, l1] (vi a0 :: vr r :: st) M Q = WP d 17 0 [some (vr r), some (vi a0)] [] M (fun v M' => WP (d + 1) 13 103 [l0, l1] (psh v st) M' Q) := w_callV mC_13 d13_100 (ci := 3) rfl rfl rfl (Nat.le_of_ble_eq_true rfl) (by decide) rfl hl (Or.inl hk)
theorem d13_103 : decode cX3_operand 103 = .ok (.ifCond .eq 7, 3) := by decide +kernel
theorem k13_103 {d : Nat} {l0 l1 : Option PV} {st : List PV} {M : Mem} {Q : Option PV → Mem → Prop} {x : Int32} : WP d 13 103 [l0, l1] (vi x :: st) M Q = (if x = 0 then WP d 13 110 [l0, l1] (st) M Q else WP d 13 106 [l0, l1] (st) M Q) := w_if_eq mC_13 d13_103 (by decide)
theorem d13_106 : decode cX3_operand 106 = .ok (.iconst 1, 1) := by decide +kernel
theorem k13_106 {d : Nat} {l0 l1 : Option PV} {st : List PV} {M : Mem} {Q : Option PV → Mem → Prop} : WP d 13 106 [l0, l1] (st) M Q = WP d 13 107 [l0, l1] (vi 1 :: st) M Q := w_iconst mC_13 d13_106 (by decide)
theorem d13_107 : decode cX3_operand 107 = .ok (.goto 4, 3) := by decide +kernel
theorem k13_107 {d : Nat} {l0 l1 : Option PV} {st : List PV} {M : Mem} {Q : Option PV → Mem → Prop} : WP d 13 107 [l0, l1] (st) M Q = WP d 13 111 [l0, l1] (st) M Q := w_goto mC_13 d13_107 (by decide)
theorem d13_110 : decode cX3_operand 110 = .ok (.iconst 0, 1) := by decide +kernel
theorem k13_110 {d : Nat} {l0 l1 : Option PV} {st : List PV} {M : Mem} {Q : Option PV → Mem → Prop} : WP d 13 110 [l0, l1] (st) M Q = WP d 13 111 [l0, l1] (vi 0 :: st) M Q := w_iconst mC_13 d13_110 (by decide)
theorem d13_111 : decode cX3_operand 111 = .ok (.ireturn, 1) := by decide +kernel
theorem k13_111 {d : Nat} {l0 l1 : Option PV} {M : Mem} {Q : Option PV → Mem → Prop} {x : Int32} (hx : x = 0 ∨ x = 1) : WP d 13 111 [l0, l1] ([vi x]) M Q = Q (some (vi x)) M := w_zret mC_13 d13_111 rfl hx
theorem d13_112 : decode cX3_operand 112 = .ok (.aload_n 0, 1) := by decide +kernel
theorem k13_112 {d x : Nat} {l1 : Option PV} {st : List PV} {M : Mem} {Q : Option PV → Mem → Prop} : WP d 13 112 [some (vr x), l1] (st) M Q = WP d 13 113 [some (vr x), l1] (vr x :: st) M Q := w1 mC_13 d13_112 rfl rfl
theorem d13_113 : decode cX3_operand 113 = .ok (.bipush 33, 2) := by decide +kernel
theorem k13_113 {d : Nat} {l0 l1 : Option PV} {st : List PV} {M : Mem} {Q : Option PV → Mem → Prop} : WP d 13 113 [l0, l1] (st) M Q = WP d 13 115 [l0, l1] (vi 33 :: st) M Q := w_bipush mC_13 d13_113 (by decide)
theorem d13_115 : decode cX3_operand 115 = .ok (.invokevirtual 47, 3) := by decide +kernel
theorem k13_115 {d : Nat} {l0 l1 : Option PV} {st : List PV} {M : Mem} {Q : Option PV → Mem → Prop} {a0 : Int32} {r : Nat} (hl : szL st ≤ 8) (hk : mK M r = 3) : WP (d + 1) 13 115 [l0, l1] (vi a0 :: vr r :: st) M Q = WP d 17 0 [some (vr r), some (vi a0)] [] M (fun v M' => WP (d + 1) 13 118 [l0, l1] (psh v st) M' Q) := w_callV mC_13 d13_115 (ci := 3) rfl rfl rfl (Nat.le_of_ble_eq_true rfl) (by decide) rfl hl (Or.inl hk)
theorem d13_118 : decode cX3_operand 118 = .ok (.ifCond .eq 29, 3) := by decide +kernel
theorem k13_118 {d : Nat} {l0 l1 : Option PV} {st : List PV} {M : Mem} {Q : Option PV → Mem → Prop} {x : Int32} : WP d 13 118 [l0, l1] (vi x :: st) M Q = (if x = 0 then WP d 13 147 [l0, l1] (st) M Q else WP d 13 121 [l0, l1] (st) M Q) := w_if_eq mC_13 d13_118 (by decide)
theorem d13_121 : decode cX3_operand 121 = .ok (.aload_n 0, 1) := by decide +kernel
theorem k13_121 {d x : Nat} {l1 : Option PV} {st : List PV} {M : Mem} {Q : Option PV → Mem → Prop} : WP d 13 121 [some (vr x), l1] (st) M Q = WP d 13 122 [some (vr x), l1] (vr x :: st) M Q := w1 mC_13 d13_121 rfl rfl
theorem d13_122 : decode cX3_operand 122 = .ok (.iload_n 1, 1) := by decide +kernel
theorem k13_122 {d : Nat} {x : Int32} {l0 : Option PV} {st : List PV} {M : Mem} {Q : Option PV → Mem → Prop} : WP d 13 122 [l0, some (vi x)] (st) M Q = WP d 13 123 [l0, some (vi x)] (vi x :: st) M Q := w1 mC_13 d13_122 rfl rfl
theorem d13_123 : decode cX3_operand 123 = .ok (.iconst 1, 1) := by decide +kernel
theorem k13_123 {d : Nat} {l0 l1 : Option PV} {st : List PV} {M : Mem} {Q : Option PV → Mem → Prop} : WP d 13 123 [l0, l1] (st) M Q = WP d 13 124 [l0, l1] (vi 1 :: st) M Q := w_iconst mC_13 d13_123 (by decide)
theorem d13_124 : decode cX3_operand 124 = .ok (.iadd, 1) := by decide +kernel
theorem k13_124 {d : Nat} {l0 l1 : Option PV} {st : List PV} {M : Mem} {Q : Option PV → Mem → Prop} {x y : Int32} : WP d 13 124 [l0, l1] (vi y :: vi x :: st) M Q = WP d 13 125 [l0, l1] (vi (x + y) :: st) M Q := w1 mC_13 d13_124 rfl rfl
theorem d13_125 : decode cX3_operand 125 = .ok (.invokevirtual 58, 3) := by decide +kernel
theorem k13_125 {d : Nat} {l0 l1 : Option PV} {st : List PV} {M : Mem} {Q : Option PV → Mem → Prop} {a0 : Int32} {r : Nat} (hl : szL st ≤ 8) (hk : mK M r = 3) : WP (d + 1) 13 125 [l0, l1] (vi a0 :: vr r :: st) M Q = WP d 13 0 [some (vr r), some (vi a0)] [] M (fun v M' => WP (d + 1) 13 128 [l0, l1] (psh v st) M' Q) := w_callV mC_13 d13_125 (ci := 3) rfl rfl rfl (Nat.le_of_ble_eq_true rfl) (by decide) rfl hl (Or.inl hk)
theorem d13_128 : decode cX3_operand 128 = .ok (.ifCond .eq 17, 3) := by decide +kernel
theorem k13_128 {d : Nat} {l0 l1 : Option PV} {st : List PV} {M : Mem} {Q : Option PV → Mem → Prop} {x : Int32} : WP d 13 128 [l0, l1] (vi x :: st) M Q = (if x = 0 then WP d 13 145 [l0, l1] (st) M Q else WP d 13 131 [l0, l1] (st) M Q) := w_if_eq mC_13 d13_128 (by decide)
theorem d13_131 : decode cX3_operand 131 = .ok (.aload_n 0, 1) := by decide +kernel
theorem k13_131 {d x : Nat} {l1 : Option PV} {st : List PV} {M : Mem} {Q : Option PV → Mem → Prop} : WP d 13 131 [some (vr x), l1] (st) M Q = WP d 13 132 [some (vr x), l1] (vr x :: st) M Q := w1 mC_13 d13_131 rfl rfl
theorem d13_132 : decode cX3_operand 132 = .ok (.bipush 33, 2) := by decide +kernel
theorem k13_132 {d : Nat} {l0 l1 : Option PV} {st : List PV} {M : Mem} {Q : Option PV → Mem → Prop} : WP d 13 132 [l0, l1] (st) M Q = WP d 13 134 [l0, l1] (vi 33 :: st) M Q := w_bipush mC_13 d13_132 (by decide)
theorem d13_134 : decode cX3_operand 134 = .ok (.iconst 0, 1) := by decide +kernel
theorem k13_134 {d : Nat} {l0 l1 : Option PV} {st : List PV} {M : Mem} {Q : Option PV → Mem → Prop} : WP d 13 134 [l0, l1] (st) M Q = WP d 13 135 [l0, l1] (vi 0 :: st) M Q := w_iconst mC_13 d13_134 (by decide)
theorem d13_135 : decode cX3_operand 135 = .ok (.invokevirtual 55, 3) := by decide +kernel
theorem k13_135 {d : Nat} {l0 l1 : Option PV} {st : List PV} {M : Mem} {Q : Option PV → Mem → Prop} {a0 a1 : Int32} {r : Nat} (hl : szL st ≤ 8) (hk : mK M r = 3) : WP (d + 1) 13 135 [l0, l1] (vi a1 :: vi a0 :: vr r :: st) M Q = WP d 18 0 [some (vr r), some (vi a0), some (vi a1)] [] M (fun v M' => WP (d + 1) 13 138 [l0, l1] (psh v st) M' Q) := w_callV mC_13 d13_135 (ci := 3) rfl rfl rfl (Nat.le_of_ble_eq_true rfl) (by decide) rfl hl (Or.inl hk)
theorem d13_138 : decode cX3_operand 138 = .ok (.ifCond .eq 7, 3) := by decide +kernel
theorem k13_138 {d : Nat} {l0 l1 : Option PV} {st : List PV} {M : Mem} {Q : Option PV → Mem → Prop} {x : Int32} : WP d 13 138 [l0, l1] (vi x :: st) M Q = (if x = 0 then WP d 13 145 [l0, l1] (st) M Q else WP d 13 141 [l0, l1] (st) M Q) := w_if_eq mC_13 d13_138 (by decide)
theorem d13_141 : decode cX3_operand 141 = .ok (.iconst 1, 1) := by decide +kernel
theorem k13_141 {d : Nat} {l0 l1 : Option PV} {st : List PV} {M : Mem} {Q : Option PV → Mem → Prop} : WP d 13 141 [l0, l1] (st) M Q = WP d 13 142 [l0, l1] (vi 1 :: st) M Q := w_iconst mC_13 d13_141 (by decide)
theorem d13_142 : decode cX3_operand 142 = .ok (.goto 4, 3) := by decide +kernel
theorem k13_142 {d : Nat} {l0 l1 : Option PV} {st : List PV} {M : Mem} {Q : Option PV → Mem → Prop} : WP d 13 142 [l0, l1] (st) M Q = WP d 13 146 [l0, l1] (st) M Q := w_goto mC_13 d13_142 (by decide)
theorem d13_145 : decode cX3_operand 145 = .ok (.iconst 0, 1) := by decide +kernel
theorem k13_145 {d : Nat} {l0 l1 : Option PV} {st : List PV} {M : Mem} {Q : Option PV → Mem → Prop} : WP d 13 145 [l0, l1] (st) M Q = WP d 13 146 [l0, l1] (vi 0 :: st) M Q := w_iconst mC_13 d13_145 (by decide)
theorem d13_146 : decode cX3_operand 146 = .ok (.ireturn, 1) := by decide +kernel
theorem k13_146 {d : Nat} {l0 l1 : Option PV} {M : Mem} {Q : Option PV → Mem → Prop} {x : Int32} (hx : x = 0 ∨ x = 1) : WP d 13 146 [l0, l1] ([vi x]) M Q = Q (some (vi x)) M := w_zret mC_13 d13_146 rfl hx
theorem d13_147 : decode cX3_operand 147 = .ok (.aload_n 0, 1) := by decide +kernel
theorem k13_147 {d x : Nat} {l1 : Option PV} {st : List PV} {M : Mem} {Q : Option PV → Mem → Prop} : WP d 13 147 [some (vr x), l1] (st) M Q = WP d 13 148 [some (vr x), l1] (vr x :: st) M Q := w1 mC_13 d13_147 rfl rfl
theorem d13_148 : decode cX3_operand 148 = .ok (.bipush 45, 2) := by decide +kernel
theorem k13_148 {d : Nat} {l0 l1 : Option PV} {st : List PV} {M : Mem} {Q : Option PV → Mem → Prop} : WP d 13 148 [l0, l1] (st) M Q = WP d 13 150 [l0, l1] (vi 45 :: st) M Q := w_bipush mC_13 d13_148 (by decide)
theorem d13_150 : decode cX3_operand 150 = .ok (.invokevirtual 47, 3) := by decide +kernel
theorem k13_150 {d : Nat} {l0 l1 : Option PV} {st : List PV} {M : Mem} {Q : Option PV → Mem → Prop} {a0 : Int32} {r : Nat} (hl : szL st ≤ 8) (hk : mK M r = 3) : WP (d + 1) 13 150 [l0, l1] (vi a0 :: vr r :: st) M Q = WP d 17 0 [some (vr r), some (vi a0)] [] M (fun v M' => WP (d + 1) 13 153 [l0, l1] (psh v st) M' Q) := w_callV mC_13 d13_150 (ci := 3) rfl rfl rfl (Nat.le_of_ble_eq_true rfl) (by decide) rfl hl (Or.inl hk)
theorem d13_153 : decode cX3_operand 153 = .ok (.ifCond .eq 27, 3) := by decide +kernel
theorem k13_153 {d : Nat} {l0 l1 : Option PV} {st : List PV} {M : Mem} {Q : Option PV → Mem → Prop} {x : Int32} : WP d 13 153 [l0, l1] (vi x :: st) M Q = (if x = 0 then WP d 13 180 [l0, l1] (st) M Q else WP d 13 156 [l0, l1] (st) M Q) := w_if_eq mC_13 d13_153 (by decide)
theorem d13_156 : decode cX3_operand 156 = .ok (.aload_n 0, 1) := by decide +kernel
theorem k13_156 {d x : Nat} {l1 : Option PV} {st : List PV} {M : Mem} {Q : Option PV → Mem → Prop} : WP d 13 156 [some (vr x), l1] (st) M Q = WP d 13 157 [some (vr x), l1] (vr x :: st) M Q := w1 mC_13 d13_156 rfl rfl
theorem d13_157 : decode cX3_operand 157 = .ok (.iload_n 1, 1) := by decide +kernel
theorem k13_157 {d : Nat} {x : Int32} {l0 : Option PV} {st : List PV} {M : Mem} {Q : Option PV → Mem → Prop} : WP d 13 157 [l0, some (vi x)] (st) M Q = WP d 13 158 [l0, some (vi x)] (vi x :: st) M Q := w1 mC_13 d13_157 rfl rfl
theorem d13_158 : decode cX3_operand 158 = .ok (.iconst 1, 1) := by decide +kernel
theorem k13_158 {d : Nat} {l0 l1 : Option PV} {st : List PV} {M : Mem} {Q : Option PV → Mem → Prop} : WP d 13 158 [l0, l1] (st) M Q = WP d 13 159 [l0, l1] (vi 1 :: st) M Q := w_iconst mC_13 d13_158 (by decide)
theorem d13_159 : decode cX3_operand 159 = .ok (.iadd, 1) := by decide +kernel
theorem k13_159 {d : Nat} {l0 l1 : Option PV} {st : List PV} {M : Mem} {Q : Option PV → Mem → Prop} {x y : Int32} : WP d 13 159 [l0, l1] (vi y :: vi x :: st) M Q = WP d 13 160 [l0, l1] (vi (x + y) :: st) M Q := w1 mC_13 d13_159 rfl rfl
theorem d13_160 : decode cX3_operand 160 = .ok (.invokevirtual 58, 3) := by decide +kernel
theorem k13_160 {d : Nat} {l0 l1 : Option PV} {st : List PV} {M : Mem} {Q : Option PV → Mem → Prop} {a0 : Int32} {r : Nat} (hl : szL st ≤ 8) (hk : mK M r = 3) : WP (d + 1) 13 160 [l0, l1] (vi a0 :: vr r :: st) M Q = WP d 13 0 [some (vr r), some (vi a0)] [] M (fun v M' => WP (d + 1) 13 163 [l0, l1] (psh v st) M' Q) := w_callV mC_13 d13_160 (ci := 3) rfl rfl rfl (Nat.le_of_ble_eq_true rfl) (by decide) rfl hl (Or.inl hk)
theorem d13_163 : decode cX3_operand 163 = .ok (.ifCond .eq 17, 3) := by decide +kernel
theorem k13_163 {d : Nat} {l0 l1 : Option PV} {st : List PV} {M : Mem} {Q : Option PV → Mem → Prop} {x : Int32} : WP d 13 163 [l0, l1] (vi x :: st) M Q = (if x = 0 then WP d 13 180 [l0, l1] (st) M Q else WP d 13 166 [l0, l1] (st) M Q) := w_if_eq mC_13 d13_163 (by decide)
theorem d13_166 : decode cX3_operand 166 = .ok (.aload_n 0, 1) := by decide +kernel
theorem k13_166 {d x : Nat} {l1 : Option PV} {st : List PV} {M : Mem} {Q : Option PV → Mem → Prop} : WP d 13 166 [some (vr x), l1] (st) M Q = WP d 13 167 [some (vr x), l1] (vr x :: st) M Q := w1 mC_13 d13_166 rfl rfl
theorem d13_167 : decode cX3_operand 167 = .ok (.bipush 126, 2) := by decide +kernel
theorem k13_167 {d : Nat} {l0 l1 : Option PV} {st : List PV} {M : Mem} {Q : Option PV → Mem → Prop} : WP d 13 167 [l0, l1] (st) M Q = WP d 13 169 [l0, l1] (vi 126 :: st) M Q := w_bipush mC_13 d13_167 (by decide)
theorem d13_169 : decode cX3_operand 169 = .ok (.iconst 0, 1) := by decide +kernel
theorem k13_169 {d : Nat} {l0 l1 : Option PV} {st : List PV} {M : Mem} {Q : Option PV → Mem → Prop} : WP d 13 169 [l0, l1] (st) M Q = WP d 13 170 [l0, l1] (vi 0 :: st) M Q := w_iconst mC_13 d13_169 (by decide)
theorem d13_170 : decode cX3_operand 170 = .ok (.invokevirtual 55, 3) := by decide +kernel
theorem k13_170 {d : Nat} {l0 l1 : Option PV} {st : List PV} {M : Mem} {Q : Option PV → Mem → Prop} {a0 a1 : Int32} {r : Nat} (hl : szL st ≤ 8) (hk : mK M r = 3) : WP (d + 1) 13 170 [l0, l1] (vi a1 :: vi a0 :: vr r :: st) M Q = WP d 18 0 [some (vr r), some (vi a0), some (vi a1)] [] M (fun v M' => WP (d + 1) 13 173 [l0, l1] (psh v st) M' Q) := w_callV mC_13 d13_170 (ci := 3) rfl rfl rfl (Nat.le_of_ble_eq_true rfl) (by decide) rfl hl (Or.inl hk)
theorem d13_173 : decode cX3_operand 173 = .ok (.ifCond .eq 7, 3) := by decide +kernel
theorem k13_173 {d : Nat} {l0 l1 : Option PV} {st : List PV} {M : Mem} {Q : Option PV → Mem → Prop} {x : Int32} : WP d 13 173 [l0, l1] (vi x :: st) M Q = (if x = 0 then WP d 13 180 [l0, l1] (st) M Q else WP d 13 176 [l0, l1] (st) M Q) := w_if_eq mC_13 d13_173 (by decide)
theorem d13_176 : decode cX3_operand 176 = .ok (.iconst 1, 1) := by decide +kernel
theorem k13_176 {d : Nat} {l0 l1 : Option PV} {st : List PV} {M : Mem} {Q : Option PV → Mem → Prop} : WP d 13 176 [l0, l1] (st) M Q = WP d 13 177 [l0, l1] (vi 1 :: st) M Q := w_iconst mC_13 d13_176 (by decide)
theorem d13_177 : decode cX3_operand 177 = .ok (.goto 4, 3) := by decide +kernel
theorem k13_177 {d : Nat} {l0 l1 : Option PV} {st : List PV} {M : Mem} {Q : Option PV → Mem → Prop} : WP d 13 177 [l0, l1] (st) M Q = WP d 13 181 [l0, l1] (st) M Q := w_goto mC_13 d13_177 (by decide)
theorem d13_180 : decode cX3_operand 180 = .ok (.iconst 0, 1) := by decide +kernel
theorem k13_180 {d : Nat} {l0 l1 : Option PV} {st : List PV} {M : Mem} {Q : Option PV → Mem → Prop} : WP d 13 180 [l0, l1] (st) M Q = WP d 13 181 [l0, l1] (vi 0 :: st) M Q := w_iconst mC_13 d13_180 (by decide)
theorem d13_181 : decode cX3_operand 181 = .ok (.ireturn, 1) := by decide +kernel
theorem k13_181 {d : Nat} {l0 l1 : Option PV} {M : Mem} {Q : Option PV → Mem → Prop} {x : Int32} (hx : x = 0 ∨ x = 1) : WP d 13 181 [l0, l1] ([vi x]) M Q = Q (some (vi x)) M := w_zret mC_13 d13_181 rfl hx
theorem d14_0 : decode cX3_number 0 = .ok (.iconst 0, 1) := by decide +kernel
theorem k14_0 {d : Nat} {l0 l1 l2 : Option PV} {st : List PV} {M : Mem} {Q : Option PV → Mem → Prop} : WP d 14 0 [l0, l1, l2] (st) M Q = WP d 14 1 [l0, l1, l2] (vi 0 :: st) M Q := w_iconst mC_14 d14_0 (by decide)
theorem d14_1 : decode cX3_number 1 = .ok (.istore_n 1, 1) := by decide +kernel
theorem k14_1 {d : Nat} {l0 l1 l2 : Option PV} {st : List PV} {M : Mem} {Q : Option PV → Mem → Prop} {x : Int32} : WP d 14 1 [l0, l1, l2] (vi x :: st) M Q = WP d 14 2 [l0, some (vi x), l2] (st) M Q := w1 mC_14 d14_1 rfl rfl
theorem d14_2 : decode cX3_number 2 = .ok (.iconst 0, 1) := by decide +kernel
theorem k14_2 {d : Nat} {l0 l1 l2 : Option PV} {st : List PV} {M : Mem} {Q : Option PV → Mem → Prop} : WP d 14 2 [l0, l1, l2] (st) M Q = WP d 14 3 [l0, l1, l2] (vi 0 :: st) M Q := w_iconst mC_14 d14_2 (by decide)
theorem d14_3 : decode cX3_number 3 = .ok (.istore_n 2, 1) := by decide +kernel
theorem k14_3 {d : Nat} {l0 l1 l2 : Option PV} {st : List PV} {M : Mem} {Q : Option PV → Mem → Prop} {x : Int32} : WP d 14 3 [l0, l1, l2] (vi x :: st) M Q = WP d 14 4 [l0, l1, some (vi x)] (st) M Q := w1 mC_14 d14_3 rfl rfl
theorem d14_4 : decode cX3_number 4 = .ok (.iload_n 2, 1) := by decide +kernel
theorem k14_4 {d : Nat} {x : Int32} {l0 l1 : Option PV} {st : List PV} {M : Mem} {Q : Option PV → Mem → Prop} : WP d 14 4 [l0, l1, some (vi x)] (st) M Q = WP d 14 5 [l0, l1, some (vi x)] (vi x :: st) M Q := w1 mC_14 d14_4 rfl rfl
theorem d14_5 : decode cX3_number 5 = .ok (.iconst 4, 1) := by decide +kernel
theorem k14_5 {d : Nat} {l0 l1 l2 : Option PV} {st : List PV} {M : Mem} {Q : Option PV → Mem → Prop} : WP d 14 5 [l0, l1, l2] (st) M Q = WP d 14 6 [l0, l1, l2] (vi 4 :: st) M Q := w_iconst mC_14 d14_5 (by decide)
theorem d14_6 : decode cX3_number 6 = .ok (.if_icmp .ge 44, 3) := by decide +kernel
theorem k14_6 {d : Nat} {l0 l1 l2 : Option PV} {st : List PV} {M : Mem} {Q : Option PV → Mem → Prop} {x y : Int32} : WP d 14 6 [l0, l1, l2] (vi y :: vi x :: st) M Q = (if y ≤ x then WP d 14 50 [l0, l1, l2] (st) M Q else WP d 14 9 [l0, l1, l2] (st) M Q) := w_ic_ge mC_14 d14_6 (by decide)
theorem d14_9 : decode cX3_number 9 = .ok (.aload_n 0, 1) := by decide +kernel
theorem k14_9 {d x : Nat} {l1 l2 : Option PV} {st : List PV} {M : Mem} {Q : Option PV → Mem → Prop} : WP d 14 9 [some (vr x), l1, l2] (st) M Q = WP d 14 10 [some (vr x), l1, l2] (vr x :: st) M Q := w1 mC_14 d14_9 rfl rfl
theorem d14_10 : decode cX3_number 10 = .ok (.invokevirtual 65, 3) := by decide +kernel
theorem k14_10 {d : Nat} {l0 l1 l2 : Option PV} {st : List PV} {M : Mem} {Q : Option PV → Mem → Prop} {r : Nat} (hl : szL st ≤ 8) (hk : mK M r = 3) : WP (d + 1) 14 10 [l0, l1, l2] (vr r :: st) M Q = WP d 15 0 [some (vr r)] [] M (fun v M' => WP (d + 1) 14 13 [l0, l1, l2] (psh v st) M' Q) := w_callV mC_14 d14_10 (ci := 3) rfl rfl rfl (Nat.le_of_ble_eq_true rfl) (by decide) rfl hl (Or.inl hk)
theorem d14_13 : decode cX3_number 13 = .ok (.ifCond .eq 37, 3) := by decide +kernel
theorem k14_13 {d : Nat} {l0 l1 l2 : Option PV} {st : List PV} {M : Mem} {Q : Option PV → Mem → Prop} {x : Int32} : WP d 14 13 [l0, l1, l2] (vi x :: st) M Q = (if x = 0 then WP d 14 50 [l0, l1, l2] (st) M Q else WP d 14 16 [l0, l1, l2] (st) M Q) := w_if_eq mC_14 d14_13 (by decide)
theorem d14_16 : decode cX3_number 16 = .ok (.iload_n 1, 1) := by decide +kernel
theorem k14_16 {d : Nat} {x : Int32} {l0 l2 : Option PV} {st : List PV} {M : Mem} {Q : Option PV → Mem → Prop} : WP d 14 16 [l0, some (vi x), l2] (st) M Q = WP d 14 17 [l0, some (vi x), l2] (vi x :: st) M Q := w1 mC_14 d14_16 rfl rfl
theorem d14_17 : decode cX3_number 17 = .ok (.bipush 10, 2) := by decide +kernel
theorem k14_17 {d : Nat} {l0 l1 l2 : Option PV} {st : List PV} {M : Mem} {Q : Option PV → Mem → Prop} : WP d 14 17 [l0, l1, l2] (st) M Q = WP d 14 19 [l0, l1, l2] (vi 10 :: st) M Q := w_bipush mC_14 d14_17 (by decide)
theorem d14_19 : decode cX3_number 19 = .ok (.imul, 1) := by decide +kernel
theorem k14_19 {d : Nat} {l0 l1 l2 : Option PV} {st : List PV} {M : Mem} {Q : Option PV → Mem → Prop} {x y : Int32} : WP d 14 19 [l0, l1, l2] (vi y :: vi x :: st) M Q = WP d 14 20 [l0, l1, l2] (vi (x * y) :: st) M Q := w1 mC_14 d14_19 rfl rfl
theorem d14_20 : decode cX3_number 20 = .ok (.aload_n 0, 1) := by decide +kernel
theorem k14_20 {d x : Nat} {l1 l2 : Option PV} {st : List PV} {M : Mem} {Q : Option PV → Mem → Prop} : WP d 14 20 [some (vr x), l1, l2] (st) M Q = WP d 14 21 [some (vr x), l1, l2] (vr x :: st) M Q := w1 mC_14 d14_20 rfl rfl
theorem d14_21 : decode cX3_number 21 = .ok (.getfield 28, 3) := by decide +kernel
theorem k14_21 {d : Nat} {l0 l1 l2 : Option PV} {st : List PV} {M : Mem} {Q : Option PV → Mem → Prop} {r : Nat} (hk : mK M r = 3) : WP d 14 21 [l0, l1, l2] (vr r :: st) M Q = WP d 14 24 [l0, l1, l2] (vr (mR M r 6) :: st) M Q := w_getr mC_14 d14_21 fE_3_28 rfl (by rw [hk]; rfl)
theorem d14_24 : decode cX3_number 24 = .ok (.aload_n 0, 1) := by decide +kernel
theorem k14_24 {d x : Nat} {l1 l2 : Option PV} {st : List PV} {M : Mem} {Q : Option PV → Mem → Prop} : WP d 14 24 [some (vr x), l1, l2] (st) M Q = WP d 14 25 [some (vr x), l1, l2] (vr x :: st) M Q := w1 mC_14 d14_24 rfl rfl
theorem d14_25 : decode cX3_number 25 = .ok (.getfield 40, 3) := by decide +kernel
theorem k14_25 {d : Nat} {l0 l1 l2 : Option PV} {st : List PV} {M : Mem} {Q : Option PV → Mem → Prop} {r : Nat} (hk : mK M r = 3) : WP d 14 25 [l0, l1, l2] (vr r :: st) M Q = WP d 14 28 [l0, l1, l2] (vi (mI M r 8) :: st) M Q := w_get mC_14 d14_25 fE_3_40 rfl (by rw [hk]; rfl)
theorem d14_28 : decode cX3_number 28 = .ok (.iaload, 1) := by decide +kernel
theorem k14_28 {d : Nat} {l0 l1 l2 : Option PV} {st : List PV} {M : Mem} {Q : Option PV → Mem → Prop} {r : Nat} {j : Int32} (hk : mK M r = 13) (hj : inb j (mN M r)) (_h1 : r ≠ 1) : WP d 14 28 [l0, l1, l2] (vi j :: vr r :: st) M Q = WP d 14 29 [l0, l1, l2] (vi (mI M r (ix j)) :: st) M Q := w_iald mC_14 d14_28 hk hj
theorem d14_29 : decode cX3_number 29 = .ok (.iadd, 1) := by decide +kernel
theorem k14_29 {d : Nat} {l0 l1 l2 : Option PV} {st : List PV} {M : Mem} {Q : Option PV → Mem → Prop} {x y : Int32} : WP d 14 29 [l0, l1, l2] (vi y :: vi x :: st) M Q = WP d 14 30 [l0, l1, l2] (vi (x + y) :: st) M Q := w1 mC_14 d14_29 rfl rfl
theorem d14_30 : decode cX3_number 30 = .ok (.bipush 48, 2) := by decide +kernel
theorem k14_30 {d : Nat} {l0 l1 l2 : Option PV} {st : List PV} {M : Mem} {Q : Option PV → Mem → Prop} : WP d 14 30 [l0, l1, l2] (st) M Q = WP d 14 32 [l0, l1, l2] (vi 48 :: st) M Q := w_bipush mC_14 d14_30 (by decide)
theorem d14_32 : decode cX3_number 32 = .ok (.isub, 1) := by decide +kernel
theorem k14_32 {d : Nat} {l0 l1 l2 : Option PV} {st : List PV} {M : Mem} {Q : Option PV → Mem → Prop} {x y : Int32} : WP d 14 32 [l0, l1, l2] (vi y :: vi x :: st) M Q = WP d 14 33 [l0, l1, l2] (vi (x - y) :: st) M Q := w1 mC_14 d14_32 rfl rfl
theorem d14_33 : decode cX3_number 33 = .ok (.istore_n 1, 1) := by decide +kernel
theorem k14_33 {d : Nat} {l0 l1 l2 : Option PV} {st : List PV} {M : Mem} {Q : Option PV → Mem → Prop} {x : Int32} : WP d 14 33 [l0, l1, l2] (vi x :: st) M Q = WP d 14 34 [l0, some (vi x), l2] (st) M Q := w1 mC_14 d14_33 rfl rfl
theorem d14_34 : decode cX3_number 34 = .ok (.aload_n 0, 1) := by decide +kernel
theorem k14_34 {d x : Nat} {l1 l2 : Option PV} {st : List PV} {M : Mem} {Q : Option PV → Mem → Prop} : WP d 14 34 [some (vr x), l1, l2] (st) M Q = WP d 14 35 [some (vr x), l1, l2] (vr x :: st) M Q := w1 mC_14 d14_34 rfl rfl
theorem d14_35 : decode cX3_number 35 = .ok (.dup, 1) := by decide +kernel
theorem k14_35 {d : Nat} {l0 l1 l2 : Option PV} {st : List PV} {M : Mem} {Q : Option PV → Mem → Prop} {x : Nat} : WP d 14 35 [l0, l1, l2] (vr x :: st) M Q = WP d 14 36 [l0, l1, l2] (vr x :: vr x :: st) M Q := w1 mC_14 d14_35 rfl rfl
theorem k14_35i {d : Nat} {l0 l1 l2 : Option PV} {st : List PV} {M : Mem} {Q : Option PV → Mem → Prop} {x : Int32} : WP d 14 35 [l0, l1, l2] (vi x :: st) M Q = WP d 14 36 [l0, l1, l2] (vi x :: vi x :: st) M Q := w1 mC_14 d14_35 rfl rfl
theorem d14_36 : decode cX3_number 36 = .ok (.getfield 40, 3) := by decide +kernel
theorem k14_36 {d : Nat} {l0 l1 l2 : Option PV} {st : List PV} {M : Mem} {Q : Option PV → Mem → Prop} {r : Nat} (hk : mK M r = 3) : WP d 14 36 [l0, l1, l2] (vr r :: st) M Q = WP d 14 39 [l0, l1, l2] (vi (mI M r 8) :: st) M Q := w_get mC_14 d14_36 fE_3_40 rfl (by rw [hk]; rfl)
theorem d14_39 : decode cX3_number 39 = .ok (.iconst 1, 1) := by decide +kernel
theorem k14_39 {d : Nat} {l0 l1 l2 : Option PV} {st : List PV} {M : Mem} {Q : Option PV → Mem → Prop} : WP d 14 39 [l0, l1, l2] (st) M Q = WP d 14 40 [l0, l1, l2] (vi 1 :: st) M Q := w_iconst mC_14 d14_39 (by decide)
theorem d14_40 : decode cX3_number 40 = .ok (.iadd, 1) := by decide +kernel
theorem k14_40 {d : Nat} {l0 l1 l2 : Option PV} {st : List PV} {M : Mem} {Q : Option PV → Mem → Prop} {x y : Int32} : WP d 14 40 [l0, l1, l2] (vi y :: vi x :: st) M Q = WP d 14 41 [l0, l1, l2] (vi (x + y) :: st) M Q := w1 mC_14 d14_40 rfl rfl
theorem d14_41 : decode cX3_number 41 = .ok (.putfield 40, 3) := by decide +kernel
theorem k14_41 {d : Nat} {l0 l1 l2 : Option PV} {st : List PV} {M : Mem} {Q : Option PV → Mem → Prop} {r : Nat} {x : Int32} (hk : mK M r = 3) : WP d 14 41 [l0, l1, l2] (vi x :: vr r :: st) M Q = WP d 14 44 [l0, l1, l2] (st) (sI M r 8 x) Q := w_put mC_14 d14_41 fE_3_40 (by decide +kernel) (by rw [hk]; rfl)
theorem d14_44 : decode cX3_number 44 = .ok (.iinc 2 1, 3) := by decide +kernel
theorem k14_44 {d : Nat} {x : Int32} {l0 l1 : Option PV} {st : List PV} {M : Mem} {Q : Option PV → Mem → Prop} : WP d 14 44 [l0, l1, some (vi x)] (st) M Q = WP d 14 47 [l0, l1, some (vi (x + 1))] (st) M Q := w_iinc mC_14 d14_44 rfl (by decide) rfl
theorem d14_47 : decode cX3_number 47 = .ok (.goto (-43), 3) := by decide +kernel
theorem k14_47 {d : Nat} {l0 l1 l2 : Option PV} {st : List PV} {M : Mem} {Q : Option PV → Mem → Prop} : WP d 14 47 [l0, l1, l2] (st) M Q = WP d 14 4 [l0, l1, l2] (st) M Q := w_goto mC_14 d14_47 (by decide)
theorem d14_50 : decode cX3_number 50 = .ok (.aload_n 0, 1) := by decide +kernel
theorem k14_50 {d x : Nat} {l1 l2 : Option PV} {st : List PV} {M : Mem} {Q : Option PV → Mem → Prop} : WP d 14 50 [some (vr x), l1, l2] (st) M Q = WP d 14 51 [some (vr x), l1, l2] (vr x :: st) M Q := w1 mC_14 d14_50 rfl rfl
theorem d14_51 : decode cX3_number 51 = .ok (.bipush 35, 2) := by decide +kernel
theorem k14_51 {d : Nat} {l0 l1 l2 : Option PV} {st : List PV} {M : Mem} {Q : Option PV → Mem → Prop} : WP d 14 51 [l0, l1, l2] (st) M Q = WP d 14 53 [l0, l1, l2] (vi 35 :: st) M Q := w_bipush mC_14 d14_51 (by decide)
theorem d14_53 : decode cX3_number 53 = .ok (.iload_n 1, 1) := by decide +kernel
theorem k14_53 {d : Nat} {x : Int32} {l0 l2 : Option PV} {st : List PV} {M : Mem} {Q : Option PV → Mem → Prop} : WP d 14 53 [l0, some (vi x), l2] (st) M Q = WP d 14 54 [l0, some (vi x), l2] (vi x :: st) M Q := w1 mC_14 d14_53 rfl rfl
theorem d14_54 : decode cX3_number 54 = .ok (.invokevirtual 55, 3) := by decide +kernel
theorem k14_54 {d : Nat} {l0 l1 l2 : Option PV} {st : List PV} {M : Mem} {Q : Option PV → Mem → Prop} {a0 a1 : Int32} {r : Nat} (hl : szL st ≤ 8) (hk : mK M r = 3) : WP (d + 1) 14 54 [l0, l1, l2] (vi a1 :: vi a0 :: vr r :: st) M Q = WP d 18 0 [some (vr r), some (vi a0), some (vi a1)] [] M (fun v M' => WP (d + 1) 14 57 [l0, l1, l2] (psh v st) M' Q) := w_callV mC_14 d14_54 (ci := 3) rfl rfl rfl (Nat.le_of_ble_eq_true rfl) (by decide) rfl hl (Or.inl hk)
theorem d14_57 : decode cX3_number 57 = .ok (.ireturn, 1) := by decide +kernel
theorem k14_57 {d : Nat} {l0 l1 l2 : Option PV} {M : Mem} {Q : Option PV → Mem → Prop} {x : Int32} (hx : x = 0 ∨ x = 1) : WP d 14 57 [l0, l1, l2] ([vi x]) M Q = Q (some (vi x)) M := w_zret mC_14 d14_57 rfl hx
theorem d15_0 : decode cX3_isDigit 0 = .ok (.aload_n 0, 1) := by decide +kernel
theorem k15_0 {d x : Nat} {st : List PV} {M : Mem} {Q : Option PV → Mem → Prop} : WP d 15 0 [some (vr x)] (st) M Q = WP d 15 1 [some (vr x)] (vr x :: st) M Q := w1 mC_15 d15_0 rfl rfl
theorem d15_1 : decode cX3_isDigit 1 = .ok (.getfield 40, 3) := by decide +kernel
theorem k15_1 {d : Nat} {l0 : Option PV} {st : List PV} {M : Mem} {Q : Option PV → Mem → Prop} {r : Nat} (hk : mK M r = 3) : WP d 15 1 [l0] (vr r :: st) M Q = WP d 15 4 [l0] (vi (mI M r 8) :: st) M Q := w_get mC_15 d15_1 fE_3_40 rfl (by rw [hk]; rfl)
theorem d15_4 : decode cX3_isDigit 4 = .ok (.aload_n 0, 1) := by decide +kernel
theorem k15_4 {d x : Nat} {st : List PV} {M : Mem} {Q : Option PV → Mem → Prop} : WP d 15 4 [some (vr x)] (st) M Q = WP d 15 5 [some (vr x)] (vr x :: st) M Q := w1 mC_15 d15_4 rfl rfl
theorem d15_5 : decode cX3_isDigit 5 = .ok (.getfield 37, 3) := by decide +kernel
theorem k15_5 {d : Nat} {l0 : Option PV} {st : List PV} {M : Mem} {Q : Option PV → Mem → Prop} {r : Nat} (hk : mK M r = 3) : WP d 15 5 [l0] (vr r :: st) M Q = WP d 15 8 [l0] (vi (mI M r 7) :: st) M Q := w_get mC_15 d15_5 fE_3_37 rfl (by rw [hk]; rfl)
theorem d15_8 : decode cX3_isDigit 8 = .ok (.if_icmp .ge 26, 3) := by decide +kernel
theorem k15_8 {d : Nat} {l0 : Option PV} {st : List PV} {M : Mem} {Q : Option PV → Mem → Prop} {x y : Int32} : WP d 15 8 [l0] (vi y :: vi x :: st) M Q = (if y ≤ x then WP d 15 34 [l0] (st) M Q else WP d 15 11 [l0] (st) M Q) := w_ic_ge mC_15 d15_8 (by decide)
theorem d15_11 : decode cX3_isDigit 11 = .ok (.aload_n 0, 1) := by decide +kernel
theorem k15_11 {d x : Nat} {st : List PV} {M : Mem} {Q : Option PV → Mem → Prop} : WP d 15 11 [some (vr x)] (st) M Q = WP d 15 12 [some (vr x)] (vr x :: st) M Q := w1 mC_15 d15_11 rfl rfl
theorem d15_12 : decode cX3_isDigit 12 = .ok (.getfield 28, 3) := by decide +kernel
theorem k15_12 {d : Nat} {l0 : Option PV} {st : List PV} {M : Mem} {Q : Option PV → Mem → Prop} {r : Nat} (hk : mK M r = 3) : WP d 15 12 [l0] (vr r :: st) M Q = WP d 15 15 [l0] (vr (mR M r 6) :: st) M Q := w_getr mC_15 d15_12 fE_3_28 rfl (by rw [hk]; rfl)
theorem d15_15 : decode cX3_isDigit 15 = .ok (.aload_n 0, 1) := by decide +kernel
theorem k15_15 {d x : Nat} {st : List PV} {M : Mem} {Q : Option PV → Mem → Prop} : WP d 15 15 [some (vr x)] (st) M Q = WP d 15 16 [some (vr x)] (vr x :: st) M Q := w1 mC_15 d15_15 rfl rfl
theorem d15_16 : decode cX3_isDigit 16 = .ok (.getfield 40, 3) := by decide +kernel
theorem k15_16 {d : Nat} {l0 : Option PV} {st : List PV} {M : Mem} {Q : Option PV → Mem → Prop} {r : Nat} (hk : mK M r = 3) : WP d 15 16 [l0] (vr r :: st) M Q = WP d 15 19 [l0] (vi (mI M r 8) :: st) M Q := w_get mC_15 d15_16 fE_3_40 rfl (by rw [hk]; rfl)
theorem d15_19 : decode cX3_isDigit 19 = .ok (.iaload, 1) := by decide +kernel
theorem k15_19 {d : Nat} {l0 : Option PV} {st : List PV} {M : Mem} {Q : Option PV → Mem → Prop} {r : Nat} {j : Int32} (hk : mK M r = 13) (hj : inb j (mN M r)) (_h1 : r ≠ 1) : WP d 15 19 [l0] (vi j :: vr r :: st) M Q = WP d 15 20 [l0] (vi (mI M r (ix j)) :: st) M Q := w_iald mC_15 d15_19 hk hj
theorem d15_20 : decode cX3_isDigit 20 = .ok (.bipush 48, 2) := by decide +kernel
theorem k15_20 {d : Nat} {l0 : Option PV} {st : List PV} {M : Mem} {Q : Option PV → Mem → Prop} : WP d 15 20 [l0] (st) M Q = WP d 15 22 [l0] (vi 48 :: st) M Q := w_bipush mC_15 d15_20 (by decide)
theorem d15_22 : decode cX3_isDigit 22 = .ok (.bipush 57, 2) := by decide +kernel
theorem k15_22 {d : Nat} {l0 : Option PV} {st : List PV} {M : Mem} {Q : Option PV → Mem → Prop} : WP d 15 22 [l0] (st) M Q = WP d 15 24 [l0] (vi 57 :: st) M Q := w_bipush mC_15 d15_22 (by decide)
theorem d15_24 : decode cX3_isDigit 24 = .ok (.invokestatic 74, 3) := by decide +kernel
theorem k15_24 {d : Nat} {l0 : Option PV} {st : List PV} {M : Mem} {Q : Option PV → Mem → Prop} {a0 a1 a2 : Int32} (hl : szL st ≤ 8) : WP (d + 1) 15 24 [l0] (vi a2 :: vi a1 :: vi a0 :: st) M Q = WP d 141 0 [some (vi a0), some (vi a1), some (vi a2)] [] M (fun v M' => WP (d + 1) 15 27 [l0] (psh v st) M' Q) := w_callN mC_15 d15_24 rfl rfl rfl (Nat.le_of_ble_eq_true rfl) (by decide) rfl hl
theorem d15_27 : decode cX3_isDigit 27 = .ok (.ifCond .eq 7, 3) := by decide +kernel
theorem k15_27 {d : Nat} {l0 : Option PV} {st : List PV} {M : Mem} {Q : Option PV → Mem → Prop} {x : Int32} : WP d 15 27 [l0] (vi x :: st) M Q = (if x = 0 then WP d 15 34 [l0] (st) M Q else WP d 15 30 [l0] (st) M Q) := w_if_eq mC_15 d15_27 (by decide)
theorem d15_30 : decode cX3_isDigit 30 = .ok (.iconst 1, 1) := by decide +kernel
theorem k15_30 {d : Nat} {l0 : Option PV} {st : List PV} {M : Mem} {Q : Option PV → Mem → Prop} : WP d 15 30 [l0] (st) M Q = WP d 15 31 [l0] (vi 1 :: st) M Q := w_iconst mC_15 d15_30 (by decide)
theorem d15_31 : decode cX3_isDigit 31 = .ok (.goto 4, 3) := by decide +kernel
theorem k15_31 {d : Nat} {l0 : Option PV} {st : List PV} {M : Mem} {Q : Option PV → Mem → Prop} : WP d 15 31 [l0] (st) M Q = WP d 15 35 [l0] (st) M Q := w_goto mC_15 d15_31 (by decide)
theorem d15_34 : decode cX3_isDigit 34 = .ok (.iconst 0, 1) := by decide +kernel
theorem k15_34 {d : Nat} {l0 : Option PV} {st : List PV} {M : Mem} {Q : Option PV → Mem → Prop} : WP d 15 34 [l0] (st) M Q = WP d 15 35 [l0] (vi 0 :: st) M Q := w_iconst mC_15 d15_34 (by decide)
theorem d15_35 : decode cX3_isDigit 35 = .ok (.ireturn, 1) := by decide +kernel
theorem k15_35 {d : Nat} {l0 : Option PV} {M : Mem} {Q : Option PV → Mem → Prop} {x : Int32} (hx : x = 0 ∨ x = 1) : WP d 15 35 [l0] ([vi x]) M Q = Q (some (vi x)) M := w_zret mC_15 d15_35 rfl hx
theorem d16_0 : decode cX3_nameOf 0 = .ok (.iload_n 0, 1) := by decide +kernel
theorem k16_0 {d : Nat} {x : Int32} {st : List PV} {M : Mem} {Q : Option PV → Mem → Prop} : WP d 16 0 [some (vi x)] (st) M Q = WP d 16 1 [some (vi x)] (vi x :: st) M Q := w1 mC_16 d16_0 rfl rfl
theorem d16_1 : decode cX3_nameOf 1 = .ok (.tableswitch 67 98 107 #[55, 67, 59, 67, 65, 63, 61, 67, 67, 57], 55) := by decide +kernel
theorem k16_1c98 {d : Nat} {l0 : Option PV} {st : List PV} {M : Mem} {Q : Option PV → Mem → Prop} : WP d 16 1 [l0] (vi 98 :: st) M Q = WP d 16 56 [l0] (st) M Q := w_sw mC_16 d16_1 (by decide +kernel)
theorem k16_1c99 {d : Nat} {l0 : Option PV} {st : List PV} {M : Mem} {Q : Option PV → Mem → Prop} : WP d 16 1 [l0] (vi 99 :: st) M Q = WP d 16 68 [l0] (st) M Q := w_sw mC_16 d16_1 (by decide +kernel)
theorem k16_1c100 {d : Nat} {l0 : Option PV} {st : List PV} {M : Mem} {Q : Option PV → Mem → Prop} : WP d 16 1 [l0] (vi 100 :: st) M Q = WP d 16 60 [l0] (st) M Q := w_sw mC_16 d16_1 (by decide +kernel)
theorem k16_1c101 {d : Nat} {l0 : Option PV} {st : List PV} {M : Mem} {Q : Option PV → Mem → Prop} : WP d 16 1 [l0] (vi 101 :: st) M Q = WP d 16 68 [l0] (st) M Q := w_sw mC_16 d16_1 (by decide +kernel)
theorem k16_1c102 {d : Nat} {l0 : Option PV} {st : List PV} {M : Mem} {Q : Option PV → Mem → Prop} : WP d 16 1 [l0] (vi 102 :: st) M Q = WP d 16 66 [l0] (st) M Q := w_sw mC_16 d16_1 (by decide +kernel)
theorem k16_1c103 {d : Nat} {l0 : Option PV} {st : List PV} {M : Mem} {Q : Option PV → Mem → Prop} : WP d 16 1 [l0] (vi 103 :: st) M Q = WP d 16 64 [l0] (st) M Q := w_sw mC_16 d16_1 (by decide +kernel)
theorem k16_1c104 {d : Nat} {l0 : Option PV} {st : List PV} {M : Mem} {Q : Option PV → Mem → Prop} : WP d 16 1 [l0] (vi 104 :: st) M Q = WP d 16 62 [l0] (st) M Q := w_sw mC_16 d16_1 (by decide +kernel)
theorem k16_1c105 {d : Nat} {l0 : Option PV} {st : List PV} {M : Mem} {Q : Option PV → Mem → Prop} : WP d 16 1 [l0] (vi 105 :: st) M Q = WP d 16 68 [l0] (st) M Q := w_sw mC_16 d16_1 (by decide +kernel)
theorem k16_1c106 {d : Nat} {l0 : Option PV} {st : List PV} {M : Mem} {Q : Option PV → Mem → Prop} : WP d 16 1 [l0] (vi 106 :: st) M Q = WP d 16 68 [l0] (st) M Q := w_sw mC_16 d16_1 (by decide +kernel)
theorem k16_1c107 {d : Nat} {l0 : Option PV} {st : List PV} {M : Mem} {Q : Option PV → Mem → Prop} : WP d 16 1 [l0] (vi 107 :: st) M Q = WP d 16 58 [l0] (st) M Q := w_sw mC_16 d16_1 (by decide +kernel)
theorem k16_1 {d : Nat} {l0 : Option PV} {st : List PV} {M : Mem} {Q : Option PV → Mem → Prop} {x : Int32} (h : x.toInt < 98 ∨ 107 < x.toInt) : WP d 16 1 [l0] (vi x :: st) M Q = WP d 16 68 [l0] (st) M Q := w_swd mC_16 d16_1 (by decide) h
theorem d16_56 : decode cX3_nameOf 56 = .ok (.iconst 0, 1) := by decide +kernel
theorem k16_56 {d : Nat} {l0 : Option PV} {st : List PV} {M : Mem} {Q : Option PV → Mem → Prop} : WP d 16 56 [l0] (st) M Q = WP d 16 57 [l0] (vi 0 :: st) M Q := w_iconst mC_16 d16_56 (by decide)
theorem d16_57 : decode cX3_nameOf 57 = .ok (.ireturn, 1) := by decide +kernel
theorem k16_57 {d : Nat} {l0 : Option PV} {M : Mem} {Q : Option PV → Mem → Prop} {x : Int32} : WP d 16 57 [l0] ([vi x]) M Q = Q (some (vi x)) M := w_iret mC_16 d16_57 rfl
theorem d16_58 : decode cX3_nameOf 58 = .ok (.iconst 1, 1) := by decide +kernel
theorem k16_58 {d : Nat} {l0 : Option PV} {st : List PV} {M : Mem} {Q : Option PV → Mem → Prop} : WP d 16 58 [l0] (st) M Q = WP d 16 59 [l0] (vi 1 :: st) M Q := w_iconst mC_16 d16_58 (by decide)
theorem d16_59 : decode cX3_nameOf 59 = .ok (.ireturn, 1) := by decide +kernel
theorem k16_59 {d : Nat} {l0 : Option PV} {M : Mem} {Q : Option PV → Mem → Prop} {x : Int32} : WP d 16 59 [l0] ([vi x]) M Q = Q (some (vi x)) M := w_iret mC_16 d16_59 rfl
theorem d16_60 : decode cX3_nameOf 60 = .ok (.iconst 2, 1) := by decide +kernel
theorem k16_60 {d : Nat} {l0 : Option PV} {st : List PV} {M : Mem} {Q : Option PV → Mem → Prop} : WP d 16 60 [l0] (st) M Q = WP d 16 61 [l0] (vi 2 :: st) M Q := w_iconst mC_16 d16_60 (by decide)
theorem d16_61 : decode cX3_nameOf 61 = .ok (.ireturn, 1) := by decide +kernel
theorem k16_61 {d : Nat} {l0 : Option PV} {M : Mem} {Q : Option PV → Mem → Prop} {x : Int32} : WP d 16 61 [l0] ([vi x]) M Q = Q (some (vi x)) M := w_iret mC_16 d16_61 rfl
theorem d16_62 : decode cX3_nameOf 62 = .ok (.iconst 3, 1) := by decide +kernel
theorem k16_62 {d : Nat} {l0 : Option PV} {st : List PV} {M : Mem} {Q : Option PV → Mem → Prop} : WP d 16 62 [l0] (st) M Q = WP d 16 63 [l0] (vi 3 :: st) M Q := w_iconst mC_16 d16_62 (by decide)
theorem d16_63 : decode cX3_nameOf 63 = .ok (.ireturn, 1) := by decide +kernel
theorem k16_63 {d : Nat} {l0 : Option PV} {M : Mem} {Q : Option PV → Mem → Prop} {x : Int32} : WP d 16 63 [l0] ([vi x]) M Q = Q (some (vi x)) M := w_iret mC_16 d16_63 rfl
theorem d16_64 : decode cX3_nameOf 64 = .ok (.iconst 4, 1) := by decide +kernel
theorem k16_64 {d : Nat} {l0 : Option PV} {st : List PV} {M : Mem} {Q : Option PV → Mem → Prop} : WP d 16 64 [l0] (st) M Q = WP d 16 65 [l0] (vi 4 :: st) M Q := w_iconst mC_16 d16_64 (by decide)
theorem d16_65 : decode cX3_nameOf 65 = .ok (.ireturn, 1) := by decide +kernel
theorem k16_65 {d : Nat} {l0 : Option PV} {M : Mem} {Q : Option PV → Mem → Prop} {x : Int32} : WP d 16 65 [l0] ([vi x]) M Q = Q (some (vi x)) M := w_iret mC_16 d16_65 rfl
theorem d16_66 : decode cX3_nameOf 66 = .ok (.iconst 5, 1) := by decide +kernel
theorem k16_66 {d : Nat} {l0 : Option PV} {st : List PV} {M : Mem} {Q : Option PV → Mem → Prop} : WP d 16 66 [l0] (st) M Q = WP d 16 67 [l0] (vi 5 :: st) M Q := w_iconst mC_16 d16_66 (by decide)
theorem d16_67 : decode cX3_nameOf 67 = .ok (.ireturn, 1) := by decide +kernel
theorem k16_67 {d : Nat} {l0 : Option PV} {M : Mem} {Q : Option PV → Mem → Prop} {x : Int32} : WP d 16 67 [l0] ([vi x]) M Q = Q (some (vi x)) M := w_iret mC_16 d16_67 rfl
theorem d16_68 : decode cX3_nameOf 68 = .ok (.iconst (-1), 1) := by decide +kernel
theorem k16_68 {d : Nat} {l0 : Option PV} {st : List PV} {M : Mem} {Q : Option PV → Mem → Prop} : WP d 16 68 [l0] (st) M Q = WP d 16 69 [l0] (vi (-1) :: st) M Q := w_iconst mC_16 d16_68 (by decide)
theorem d16_69 : decode cX3_nameOf 69 = .ok (.ireturn, 1) := by decide +kernel
theorem k16_69 {d : Nat} {l0 : Option PV} {M : Mem} {Q : Option PV → Mem → Prop} {x : Int32} : WP d 16 69 [l0] ([vi x]) M Q = Q (some (vi x)) M := w_iret mC_16 d16_69 rfl
theorem d17_0 : decode cX3_takes 0 = .ok (.aload_n 0, 1) := by decide +kernel
theorem k17_0 {d x : Nat} {l1 : Option PV} {st : List PV} {M : Mem} {Q : Option PV → Mem → Prop} : WP d 17 0 [some (vr x), l1] (st) M Q = WP d 17 1 [some (vr x), l1] (vr x :: st) M Q := w1 mC_17 d17_0 rfl rfl
theorem d17_1 : decode cX3_takes 1 = .ok (.getfield 40, 3) := by decide +kernel
theorem k17_1 {d : Nat} {l0 l1 : Option PV} {st : List PV} {M : Mem} {Q : Option PV → Mem → Prop} {r : Nat} (hk : mK M r = 3) : WP d 17 1 [l0, l1] (vr r :: st) M Q = WP d 17 4 [l0, l1] (vi (mI M r 8) :: st) M Q := w_get mC_17 d17_1 fE_3_40 rfl (by rw [hk]; rfl)
theorem d17_4 : decode cX3_takes 4 = .ok (.aload_n 0, 1) := by decide +kernel
theorem k17_4 {d x : Nat} {l1 : Option PV} {st : List PV} {M : Mem} {Q : Option PV → Mem → Prop} : WP d 17 4 [some (vr x), l1] (st) M Q = WP d 17 5 [some (vr x), l1] (vr x :: st) M Q := w1 mC_17 d17_4 rfl rfl
theorem d17_5 : decode cX3_takes 5 = .ok (.getfield 37, 3) := by decide +kernel
theorem k17_5 {d : Nat} {l0 l1 : Option PV} {st : List PV} {M : Mem} {Q : Option PV → Mem → Prop} {r : Nat} (hk : mK M r = 3) : WP d 17 5 [l0, l1] (vr r :: st) M Q = WP d 17 8 [l0, l1] (vi (mI M r 7) :: st) M Q := w_get mC_17 d17_5 fE_3_37 rfl (by rw [hk]; rfl)
theorem d17_8 : decode cX3_takes 8 = .ok (.if_icmp .ge 16, 3) := by decide +kernel
theorem k17_8 {d : Nat} {l0 l1 : Option PV} {st : List PV} {M : Mem} {Q : Option PV → Mem → Prop} {x y : Int32} : WP d 17 8 [l0, l1] (vi y :: vi x :: st) M Q = (if y ≤ x then WP d 17 24 [l0, l1] (st) M Q else WP d 17 11 [l0, l1] (st) M Q) := w_ic_ge mC_17 d17_8 (by decide)
theorem d17_11 : decode cX3_takes 11 = .ok (.aload_n 0, 1) := by decide +kernel
theorem k17_11 {d x : Nat} {l1 : Option PV} {st : List PV} {M : Mem} {Q : Option PV → Mem → Prop} : WP d 17 11 [some (vr x), l1] (st) M Q = WP d 17 12 [some (vr x), l1] (vr x :: st) M Q := w1 mC_17 d17_11 rfl rfl
theorem d17_12 : decode cX3_takes 12 = .ok (.getfield 28, 3) := by decide +kernel
theorem k17_12 {d : Nat} {l0 l1 : Option PV} {st : List PV} {M : Mem} {Q : Option PV → Mem → Prop} {r : Nat} (hk : mK M r = 3) : WP d 17 12 [l0, l1] (vr r :: st) M Q = WP d 17 15 [l0, l1] (vr (mR M r 6) :: st) M Q := w_getr mC_17 d17_12 fE_3_28 rfl (by rw [hk]; rfl)
theorem d17_15 : decode cX3_takes 15 = .ok (.aload_n 0, 1) := by decide +kernel
theorem k17_15 {d x : Nat} {l1 : Option PV} {st : List PV} {M : Mem} {Q : Option PV → Mem → Prop} : WP d 17 15 [some (vr x), l1] (st) M Q = WP d 17 16 [some (vr x), l1] (vr x :: st) M Q := w1 mC_17 d17_15 rfl rfl
theorem d17_16 : decode cX3_takes 16 = .ok (.getfield 40, 3) := by decide +kernel
theorem k17_16 {d : Nat} {l0 l1 : Option PV} {st : List PV} {M : Mem} {Q : Option PV → Mem → Prop} {r : Nat} (hk : mK M r = 3) : WP d 17 16 [l0, l1] (vr r :: st) M Q = WP d 17 19 [l0, l1] (vi (mI M r 8) :: st) M Q := w_get mC_17 d17_16 fE_3_40 rfl (by rw [hk]; rfl)
theorem d17_19 : decode cX3_takes 19 = .ok (.iaload, 1) := by decide +kernel
theorem k17_19 {d : Nat} {l0 l1 : Option PV} {st : List PV} {M : Mem} {Q : Option PV → Mem → Prop} {r : Nat} {j : Int32} (hk : mK M r = 13) (hj : inb j (mN M r)) (_h1 : r ≠ 1) : WP d 17 19 [l0, l1] (vi j :: vr r :: st) M Q = WP d 17 20 [l0, l1] (vi (mI M r (ix j)) :: st) M Q := w_iald mC_17 d17_19 hk hj
theorem d17_20 : decode cX3_takes 20 = .ok (.iload_n 1, 1) := by decide +kernel
theorem k17_20 {d : Nat} {x : Int32} {l0 : Option PV} {st : List PV} {M : Mem} {Q : Option PV → Mem → Prop} : WP d 17 20 [l0, some (vi x)] (st) M Q = WP d 17 21 [l0, some (vi x)] (vi x :: st) M Q := w1 mC_17 d17_20 rfl rfl
theorem d17_21 : decode cX3_takes 21 = .ok (.if_icmp .eq 5, 3) := by decide +kernel
theorem k17_21 {d : Nat} {l0 l1 : Option PV} {st : List PV} {M : Mem} {Q : Option PV → Mem → Prop} {x y : Int32} : WP d 17 21 [l0, l1] (vi y :: vi x :: st) M Q = (if x = y then WP d 17 26 [l0, l1] (st) M Q else WP d 17 24 [l0, l1] (st) M Q) := w_ic_eq mC_17 d17_21 (by decide)
theorem d17_24 : decode cX3_takes 24 = .ok (.iconst 0, 1) := by decide +kernel
theorem k17_24 {d : Nat} {l0 l1 : Option PV} {st : List PV} {M : Mem} {Q : Option PV → Mem → Prop} : WP d 17 24 [l0, l1] (st) M Q = WP d 17 25 [l0, l1] (vi 0 :: st) M Q := w_iconst mC_17 d17_24 (by decide)
theorem d17_25 : decode cX3_takes 25 = .ok (.ireturn, 1) := by decide +kernel
theorem k17_25 {d : Nat} {l0 l1 : Option PV} {M : Mem} {Q : Option PV → Mem → Prop} {x : Int32} (hx : x = 0 ∨ x = 1) : WP d 17 25 [l0, l1] ([vi x]) M Q = Q (some (vi x)) M := w_zret mC_17 d17_25 rfl hx
theorem d17_26 : decode cX3_takes 26 = .ok (.aload_n 0, 1) := by decide +kernel
theorem k17_26 {d x : Nat} {l1 : Option PV} {st : List PV} {M : Mem} {Q : Option PV → Mem → Prop} : WP d 17 26 [some (vr x), l1] (st) M Q = WP d 17 27 [some (vr x), l1] (vr x :: st) M Q := w1 mC_17 d17_26 rfl rfl
theorem d17_27 : decode cX3_takes 27 = .ok (.dup, 1) := by decide +kernel
theorem k17_27 {d : Nat} {l0 l1 : Option PV} {st : List PV} {M : Mem} {Q : Option PV → Mem → Prop} {x : Nat} : WP d 17 27 [l0, l1] (vr x :: st) M Q = WP d 17 28 [l0, l1] (vr x :: vr x :: st) M Q := w1 mC_17 d17_27 rfl rfl
theorem k17_27i {d : Nat} {l0 l1 : Option PV} {st : List PV} {M : Mem} {Q : Option PV → Mem → Prop} {x : Int32} : WP d 17 27 [l0, l1] (vi x :: st) M Q = WP d 17 28 [l0, l1] (vi x :: vi x :: st) M Q := w1 mC_17 d17_27 rfl rfl
theorem d17_28 : decode cX3_takes 28 = .ok (.getfield 40, 3) := by decide +kernel
theorem k17_28 {d : Nat} {l0 l1 : Option PV} {st : List PV} {M : Mem} {Q : Option PV → Mem → Prop} {r : Nat} (hk : mK M r = 3) : WP d 17 28 [l0, l1] (vr r :: st) M Q = WP d 17 31 [l0, l1] (vi (mI M r 8) :: st) M Q := w_get mC_17 d17_28 fE_3_40 rfl (by rw [hk]; rfl)
theorem d17_31 : decode cX3_takes 31 = .ok (.iconst 1, 1) := by decide +kernel
theorem k17_31 {d : Nat} {l0 l1 : Option PV} {st : List PV} {M : Mem} {Q : Option PV → Mem → Prop} : WP d 17 31 [l0, l1] (st) M Q = WP d 17 32 [l0, l1] (vi 1 :: st) M Q := w_iconst mC_17 d17_31 (by decide)
theorem d17_32 : decode cX3_takes 32 = .ok (.iadd, 1) := by decide +kernel
theorem k17_32 {d : Nat} {l0 l1 : Option PV} {st : List PV} {M : Mem} {Q : Option PV → Mem → Prop} {x y : Int32} : WP d 17 32 [l0, l1] (vi y :: vi x :: st) M Q = WP d 17 33 [l0, l1] (vi (x + y) :: st) M Q := w1 mC_17 d17_32 rfl rfl
theorem d17_33 : decode cX3_takes 33 = .ok (.putfield 40, 3) := by decide +kernel
theorem k17_33 {d : Nat} {l0 l1 : Option PV} {st : List PV} {M : Mem} {Q : Option PV → Mem → Prop} {r : Nat} {x : Int32} (hk : mK M r = 3) : WP d 17 33 [l0, l1] (vi x :: vr r :: st) M Q = WP d 17 36 [l0, l1] (st) (sI M r 8 x) Q := w_put mC_17 d17_33 fE_3_40 (by decide +kernel) (by rw [hk]; rfl)
theorem d17_36 : decode cX3_takes 36 = .ok (.iconst 1, 1) := by decide +kernel
theorem k17_36 {d : Nat} {l0 l1 : Option PV} {st : List PV} {M : Mem} {Q : Option PV → Mem → Prop} : WP d 17 36 [l0, l1] (st) M Q = WP d 17 37 [l0, l1] (vi 1 :: st) M Q := w_iconst mC_17 d17_36 (by decide)
theorem d17_37 : decode cX3_takes 37 = .ok (.ireturn, 1) := by decide +kernel
theorem k17_37 {d : Nat} {l0 l1 : Option PV} {M : Mem} {Q : Option PV → Mem → Prop} {x : Int32} (hx : x = 0 ∨ x = 1) : WP d 17 37 [l0, l1] ([vi x]) M Q = Q (some (vi x)) M := w_zret mC_17 d17_37 rfl hx
theorem d18_0 : decode cX3_add 0 = .ok (.aload_n 0, 1) := by decide +kernel
theorem k18_0 {d x : Nat} {l1 l2 : Option PV} {st : List PV} {M : Mem} {Q : Option PV → Mem → Prop} : WP d 18 0 [some (vr x), l1, l2] (st) M Q = WP d 18 1 [some (vr x), l1, l2] (vr x :: st) M Q := w1 mC_18 d18_0 rfl rfl
theorem d18_1 : decode cX3_add 1 = .ok (.getfield 24, 3) := by decide +kernel
theorem k18_1 {d : Nat} {l0 l1 l2 : Option PV} {st : List PV} {M : Mem} {Q : Option PV → Mem → Prop} {r : Nat} (hk : mK M r = 3) : WP d 18 1 [l0, l1, l2] (vr r :: st) M Q = WP d 18 4 [l0, l1, l2] (vi (mI M r 4) :: st) M Q := w_get mC_18 d18_1 fE_3_24 rfl (by rw [hk]; rfl)
theorem d18_4 : decode cX3_add 4 = .ok (.bipush 121, 2) := by decide +kernel
theorem k18_4 {d : Nat} {l0 l1 l2 : Option PV} {st : List PV} {M : Mem} {Q : Option PV → Mem → Prop} : WP d 18 4 [l0, l1, l2] (st) M Q = WP d 18 6 [l0, l1, l2] (vi 121 :: st) M Q := w_bipush mC_18 d18_4 (by decide)
theorem d18_6 : decode cX3_add 6 = .ok (.if_icmp .lt 5, 3) := by decide +kernel
theorem k18_6 {d : Nat} {l0 l1 l2 : Option PV} {st : List PV} {M : Mem} {Q : Option PV → Mem → Prop} {x y : Int32} : WP d 18 6 [l0, l1, l2] (vi y :: vi x :: st) M Q = (if x < y then WP d 18 11 [l0, l1, l2] (st) M Q else WP d 18 9 [l0, l1, l2] (st) M Q) := w_ic_lt mC_18 d18_6 (by decide)
theorem d18_9 : decode cX3_add 9 = .ok (.iconst 0, 1) := by decide +kernel
theorem k18_9 {d : Nat} {l0 l1 l2 : Option PV} {st : List PV} {M : Mem} {Q : Option PV → Mem → Prop} : WP d 18 9 [l0, l1, l2] (st) M Q = WP d 18 10 [l0, l1, l2] (vi 0 :: st) M Q := w_iconst mC_18 d18_9 (by decide)
theorem d18_10 : decode cX3_add 10 = .ok (.ireturn, 1) := by decide +kernel
theorem k18_10 {d : Nat} {l0 l1 l2 : Option PV} {M : Mem} {Q : Option PV → Mem → Prop} {x : Int32} (hx : x = 0 ∨ x = 1) : WP d 18 10 [l0, l1, l2] ([vi x]) M Q = Q (some (vi x)) M := w_zret mC_18 d18_10 rfl hx
theorem d18_11 : decode cX3_add 11 = .ok (.aload_n 0, 1) := by decide +kernel
theorem k18_11 {d x : Nat} {l1 l2 : Option PV} {st : List PV} {M : Mem} {Q : Option PV → Mem → Prop} : WP d 18 11 [some (vr x), l1, l2] (st) M Q = WP d 18 12 [some (vr x), l1, l2] (vr x :: st) M Q := w1 mC_18 d18_11 rfl rfl
theorem d18_12 : decode cX3_add 12 = .ok (.getfield 11, 3) := by decide +kernel
theorem k18_12 {d : Nat} {l0 l1 l2 : Option PV} {st : List PV} {M : Mem} {Q : Option PV → Mem → Prop} {r : Nat} (hk : mK M r = 3) : WP d 18 12 [l0, l1, l2] (vr r :: st) M Q = WP d 18 15 [l0, l1, l2] (vr (mR M r 0) :: st) M Q := w_getr mC_18 d18_12 fE_3_11 rfl (by rw [hk]; rfl)
theorem d18_15 : decode cX3_add 15 = .ok (.aload_n 0, 1) := by decide +kernel
theorem k18_15 {d x : Nat} {l1 l2 : Option PV} {st : List PV} {M : Mem} {Q : Option PV → Mem → Prop} : WP d 18 15 [some (vr x), l1, l2] (st) M Q = WP d 18 16 [some (vr x), l1, l2] (vr x :: st) M Q := w1 mC_18 d18_15 rfl rfl
theorem d18_16 : decode cX3_add 16 = .ok (.getfield 24, 3) := by decide +kernel
theorem k18_16 {d : Nat} {l0 l1 l2 : Option PV} {st : List PV} {M : Mem} {Q : Option PV → Mem → Prop} {r : Nat} (hk : mK M r = 3) : WP d 18 16 [l0, l1, l2] (vr r :: st) M Q = WP d 18 19 [l0, l1, l2] (vi (mI M r 4) :: st) M Q := w_get mC_18 d18_16 fE_3_24 rfl (by rw [hk]; rfl)
theorem d18_19 : decode cX3_add 19 = .ok (.iload_n 1, 1) := by decide +kernel
theorem k18_19 {d : Nat} {x : Int32} {l0 l2 : Option PV} {st : List PV} {M : Mem} {Q : Option PV → Mem → Prop} : WP d 18 19 [l0, some (vi x), l2] (st) M Q = WP d 18 20 [l0, some (vi x), l2] (vi x :: st) M Q := w1 mC_18 d18_19 rfl rfl
theorem d18_20 : decode cX3_add 20 = .ok (.iastore, 1) := by decide +kernel
theorem k18_20 {d : Nat} {l0 l1 l2 : Option PV} {st : List PV} {M : Mem} {Q : Option PV → Mem → Prop} {r : Nat} {j x : Int32} (hk : mK M r = 13) (hj : inb j (mN M r)) (h1 : r ≠ 1) : WP d 18 20 [l0, l1, l2] (vi x :: vi j :: vr r :: st) M Q = WP d 18 21 [l0, l1, l2] (st) (sI M r (ix j) x) Q := w_iast mC_18 d18_20 hk hj h1
theorem d18_21 : decode cX3_add 21 = .ok (.aload_n 0, 1) := by decide +kernel
theorem k18_21 {d x : Nat} {l1 l2 : Option PV} {st : List PV} {M : Mem} {Q : Option PV → Mem → Prop} : WP d 18 21 [some (vr x), l1, l2] (st) M Q = WP d 18 22 [some (vr x), l1, l2] (vr x :: st) M Q := w1 mC_18 d18_21 rfl rfl
theorem d18_22 : decode cX3_add 22 = .ok (.getfield 15, 3) := by decide +kernel
theorem k18_22 {d : Nat} {l0 l1 l2 : Option PV} {st : List PV} {M : Mem} {Q : Option PV → Mem → Prop} {r : Nat} (hk : mK M r = 3) : WP d 18 22 [l0, l1, l2] (vr r :: st) M Q = WP d 18 25 [l0, l1, l2] (vr (mR M r 1) :: st) M Q := w_getr mC_18 d18_22 fE_3_15 rfl (by rw [hk]; rfl)
theorem d18_25 : decode cX3_add 25 = .ok (.aload_n 0, 1) := by decide +kernel
theorem k18_25 {d x : Nat} {l1 l2 : Option PV} {st : List PV} {M : Mem} {Q : Option PV → Mem → Prop} : WP d 18 25 [some (vr x), l1, l2] (st) M Q = WP d 18 26 [some (vr x), l1, l2] (vr x :: st) M Q := w1 mC_18 d18_25 rfl rfl
theorem d18_26 : decode cX3_add 26 = .ok (.getfield 24, 3) := by decide +kernel
theorem k18_26 {d : Nat} {l0 l1 l2 : Option PV} {st : List PV} {M : Mem} {Q : Option PV → Mem → Prop} {r : Nat} (hk : mK M r = 3) : WP d 18 26 [l0, l1, l2] (vr r :: st) M Q = WP d 18 29 [l0, l1, l2] (vi (mI M r 4) :: st) M Q := w_get mC_18 d18_26 fE_3_24 rfl (by rw [hk]; rfl)
theorem d18_29 : decode cX3_add 29 = .ok (.iload_n 2, 1) := by decide +kernel
theorem k18_29 {d : Nat} {x : Int32} {l0 l1 : Option PV} {st : List PV} {M : Mem} {Q : Option PV → Mem → Prop} : WP d 18 29 [l0, l1, some (vi x)] (st) M Q = WP d 18 30 [l0, l1, some (vi x)] (vi x :: st) M Q := w1 mC_18 d18_29 rfl rfl
theorem d18_30 : decode cX3_add 30 = .ok (.iastore, 1) := by decide +kernel
theorem k18_30 {d : Nat} {l0 l1 l2 : Option PV} {st : List PV} {M : Mem} {Q : Option PV → Mem → Prop} {r : Nat} {j x : Int32} (hk : mK M r = 13) (hj : inb j (mN M r)) (h1 : r ≠ 1) : WP d 18 30 [l0, l1, l2] (vi x :: vi j :: vr r :: st) M Q = WP d 18 31 [l0, l1, l2] (st) (sI M r (ix j) x) Q := w_iast mC_18 d18_30 hk hj h1
theorem d18_31 : decode cX3_add 31 = .ok (.aload_n 0, 1) := by decide +kernel
theorem k18_31 {d x : Nat} {l1 l2 : Option PV} {st : List PV} {M : Mem} {Q : Option PV → Mem → Prop} : WP d 18 31 [some (vr x), l1, l2] (st) M Q = WP d 18 32 [some (vr x), l1, l2] (vr x :: st) M Q := w1 mC_18 d18_31 rfl rfl
theorem d18_32 : decode cX3_add 32 = .ok (.dup, 1) := by decide +kernel
theorem k18_32 {d : Nat} {l0 l1 l2 : Option PV} {st : List PV} {M : Mem} {Q : Option PV → Mem → Prop} {x : Nat} : WP d 18 32 [l0, l1, l2] (vr x :: st) M Q = WP d 18 33 [l0, l1, l2] (vr x :: vr x :: st) M Q := w1 mC_18 d18_32 rfl rfl
theorem k18_32i {d : Nat} {l0 l1 l2 : Option PV} {st : List PV} {M : Mem} {Q : Option PV → Mem → Prop} {x : Int32} : WP d 18 32 [l0, l1, l2] (vi x :: st) M Q = WP d 18 33 [l0, l1, l2] (vi x :: vi x :: st) M Q := w1 mC_18 d18_32 rfl rfl
theorem d18_33 : decode cX3_add 33 = .ok (.getfield 24, 3) := by decide +kernel
theorem k18_33 {d : Nat} {l0 l1 l2 : Option PV} {st : List PV} {M : Mem} {Q : Option PV → Mem → Prop} {r : Nat} (hk : mK M r = 3) : WP d 18 33 [l0, l1, l2] (vr r :: st) M Q = WP d 18 36 [l0, l1, l2] (vi (mI M r 4) :: st) M Q := w_get mC_18 d18_33 fE_3_24 rfl (by rw [hk]; rfl)
theorem d18_36 : decode cX3_add 36 = .ok (.iconst 1, 1) := by decide +kernel
theorem k18_36 {d : Nat} {l0 l1 l2 : Option PV} {st : List PV} {M : Mem} {Q : Option PV → Mem → Prop} : WP d 18 36 [l0, l1, l2] (st) M Q = WP d 18 37 [l0, l1, l2] (vi 1 :: st) M Q := w_iconst mC_18 d18_36 (by decide)
theorem d18_37 : decode cX3_add 37 = .ok (.iadd, 1) := by decide +kernel
theorem k18_37 {d : Nat} {l0 l1 l2 : Option PV} {st : List PV} {M : Mem} {Q : Option PV → Mem → Prop} {x y : Int32} : WP d 18 37 [l0, l1, l2] (vi y :: vi x :: st) M Q = WP d 18 38 [l0, l1, l2] (vi (x + y) :: st) M Q := w1 mC_18 d18_37 rfl rfl
theorem d18_38 : decode cX3_add 38 = .ok (.putfield 24, 3) := by decide +kernel
theorem k18_38 {d : Nat} {l0 l1 l2 : Option PV} {st : List PV} {M : Mem} {Q : Option PV → Mem → Prop} {r : Nat} {x : Int32} (hk : mK M r = 3) : WP d 18 38 [l0, l1, l2] (vi x :: vr r :: st) M Q = WP d 18 41 [l0, l1, l2] (st) (sI M r 4 x) Q := w_put mC_18 d18_38 fE_3_24 (by decide +kernel) (by rw [hk]; rfl)
theorem d18_41 : decode cX3_add 41 = .ok (.iconst 1, 1) := by decide +kernel
theorem k18_41 {d : Nat} {l0 l1 l2 : Option PV} {st : List PV} {M : Mem} {Q : Option PV → Mem → Prop} : WP d 18 41 [l0, l1, l2] (st) M Q = WP d 18 42 [l0, l1, l2] (vi 1 :: st) M Q := w_iconst mC_18 d18_41 (by decide)
theorem d18_42 : decode cX3_add 42 = .ok (.ireturn, 1) := by decide +kernel
theorem k18_42 {d : Nat} {l0 l1 l2 : Option PV} {M : Mem} {Q : Option PV → Mem → Prop} {x : Int32} (hx : x = 0 ∨ x = 1) : WP d 18 42 [l0, l1, l2] ([vi x]) M Q = Q (some (vi x)) M := w_zret mC_18 d18_42 rfl hx
theorem d19_0 : decode cX3_worked 0 = .ok (.aload_n 0, 1) := by decide +kernel
theorem k19_0 {d x : Nat} {l1 l2 l3 l4 l5 l6 l7 l8 l9 l10 : Option PV} {st : List PV} {M : Mem} {Q : Option PV → Mem → Prop} : WP d 19 0 [some (vr x), l1, l2, l3, l4, l5, l6, l7, l8, l9, l10] (st) M Q = WP d 19 1 [some (vr x), l1, l2, l3, l4, l5, l6, l7, l8, l9, l10] (vr x :: st) M Q := w1 mC_19 d19_0 rfl rfl
theorem d19_1 : decode cX3_worked 1 = .ok (.getfield 21, 3) := by decide +kernel
theorem k19_1 {d : Nat} {l0 l1 l2 l3 l4 l5 l6 l7 l8 l9 l10 : Option PV} {st : List PV} {M : Mem} {Q : Option PV → Mem → Prop} {r : Nat} (hk : mK M r = 3) : WP d 19 1 [l0, l1, l2, l3, l4, l5, l6, l7, l8, l9, l10] (vr r :: st) M Q = WP d 19 4 [l0, l1, l2, l3, l4, l5, l6, l7, l8, l9, l10] (vr (mR M r 3) :: st) M Q := w_getr mC_19 d19_1 fE_3_21 rfl (by rw [hk]; rfl)
theorem d19_4 : decode cX3_worked 4 = .ok (.iconst 0, 1) := by decide +kernel
theorem k19_4 {d : Nat} {l0 l1 l2 l3 l4 l5 l6 l7 l8 l9 l10 : Option PV} {st : List PV} {M : Mem} {Q : Option PV → Mem → Prop} : WP d 19 4 [l0, l1, l2, l3, l4, l5, l6, l7, l8, l9, l10] (st) M Q = WP d 19 5 [l0, l1, l2, l3, l4, l5, l6, l7, l8, l9, l10] (vi 0 :: st) M Q := w_iconst mC_19 d19_4 (by decide)
theorem d19_5 : decode cX3_worked 5 = .ok (.iload_n 1, 1) := by decide +kernel
theorem k19_5 {d : Nat} {x : Int32} {l0 l2 l3 l4 l5 l6 l7 l8 l9 l10 : Option PV} {st : List PV} {M : Mem} {Q : Option PV → Mem → Prop} : WP d 19 5 [l0, some (vi x), l2, l3, l4, l5, l6, l7, l8, l9, l10] (st) M Q = WP d 19 6 [l0, some (vi x), l2, l3, l4, l5, l6, l7, l8, l9, l10] (vi x :: st) M Q := w1 mC_19 d19_5 rfl rfl
theorem d19_6 : decode cX3_worked 6 = .ok (.iastore, 1) := by decide +kernel
theorem k19_6 {d : Nat} {l0 l1 l2 l3 l4 l5 l6 l7 l8 l9 l10 : Option PV} {st : List PV} {M : Mem} {Q : Option PV → Mem → Prop} {r : Nat} {j x : Int32} (hk : mK M r = 13) (hj : inb j (mN M r)) (h1 : r ≠ 1) : WP d 19 6 [l0, l1, l2, l3, l4, l5, l6, l7, l8, l9, l10] (vi x :: vi j :: vr r :: st) M Q = WP d 19 7 [l0, l1, l2, l3, l4, l5, l6, l7, l8, l9, l10] (st) (sI M r (ix j) x) Q := w_iast mC_19 d19_6 hk hj h1
theorem d19_7 : decode cX3_worked 7 = .ok (.aload_n 0, 1) := by decide +kernel
theorem k19_7 {d x : Nat} {l1 l2 l3 l4 l5 l6 l7 l8 l9 l10 : Option PV} {st : List PV} {M : Mem} {Q : Option PV → Mem → Prop} : WP d 19 7 [some (vr x), l1, l2, l3, l4, l5, l6, l7, l8, l9, l10] (st) M Q = WP d 19 8 [some (vr x), l1, l2, l3, l4, l5, l6, l7, l8, l9, l10] (vr x :: st) M Q := w1 mC_19 d19_7 rfl rfl
theorem d19_8 : decode cX3_worked 8 = .ok (.getfield 21, 3) := by decide +kernel
theorem k19_8 {d : Nat} {l0 l1 l2 l3 l4 l5 l6 l7 l8 l9 l10 : Option PV} {st : List PV} {M : Mem} {Q : Option PV → Mem → Prop} {r : Nat} (hk : mK M r = 3) : WP d 19 8 [l0, l1, l2, l3, l4, l5, l6, l7, l8, l9, l10] (vr r :: st) M Q = WP d 19 11 [l0, l1, l2, l3, l4, l5, l6, l7, l8, l9, l10] (vr (mR M r 3) :: st) M Q := w_getr mC_19 d19_8 fE_3_21 rfl (by rw [hk]; rfl)
theorem d19_11 : decode cX3_worked 11 = .ok (.iconst 1, 1) := by decide +kernel
theorem k19_11 {d : Nat} {l0 l1 l2 l3 l4 l5 l6 l7 l8 l9 l10 : Option PV} {st : List PV} {M : Mem} {Q : Option PV → Mem → Prop} : WP d 19 11 [l0, l1, l2, l3, l4, l5, l6, l7, l8, l9, l10] (st) M Q = WP d 19 12 [l0, l1, l2, l3, l4, l5, l6, l7, l8, l9, l10] (vi 1 :: st) M Q := w_iconst mC_19 d19_11 (by decide)
theorem d19_12 : decode cX3_worked 12 = .ok (.iload_n 2, 1) := by decide +kernel
theorem k19_12 {d : Nat} {x : Int32} {l0 l1 l3 l4 l5 l6 l7 l8 l9 l10 : Option PV} {st : List PV} {M : Mem} {Q : Option PV → Mem → Prop} : WP d 19 12 [l0, l1, some (vi x), l3, l4, l5, l6, l7, l8, l9, l10] (st) M Q = WP d 19 13 [l0, l1, some (vi x), l3, l4, l5, l6, l7, l8, l9, l10] (vi x :: st) M Q := w1 mC_19 d19_12 rfl rfl
theorem d19_13 : decode cX3_worked 13 = .ok (.iastore, 1) := by decide +kernel
theorem k19_13 {d : Nat} {l0 l1 l2 l3 l4 l5 l6 l7 l8 l9 l10 : Option PV} {st : List PV} {M : Mem} {Q : Option PV → Mem → Prop} {r : Nat} {j x : Int32} (hk : mK M r = 13) (hj : inb j (mN M r)) (h1 : r ≠ 1) : WP d 19 13 [l0, l1, l2, l3, l4, l5, l6, l7, l8, l9, l10] (vi x :: vi j :: vr r :: st) M Q = WP d 19 14 [l0, l1, l2, l3, l4, l5, l6, l7, l8, l9, l10] (st) (sI M r (ix j) x) Q := w_iast mC_19 d19_13 hk hj h1
theorem d19_14 : decode cX3_worked 14 = .ok (.aload_n 0, 1) := by decide +kernel
theorem k19_14 {d x : Nat} {l1 l2 l3 l4 l5 l6 l7 l8 l9 l10 : Option PV} {st : List PV} {M : Mem} {Q : Option PV → Mem → Prop} : WP d 19 14 [some (vr x), l1, l2, l3, l4, l5, l6, l7, l8, l9, l10] (st) M Q = WP d 19 15 [some (vr x), l1, l2, l3, l4, l5, l6, l7, l8, l9, l10] (vr x :: st) M Q := w1 mC_19 d19_14 rfl rfl
theorem d19_15 : decode cX3_worked 15 = .ok (.getfield 21, 3) := by decide +kernel
theorem k19_15 {d : Nat} {l0 l1 l2 l3 l4 l5 l6 l7 l8 l9 l10 : Option PV} {st : List PV} {M : Mem} {Q : Option PV → Mem → Prop} {r : Nat} (hk : mK M r = 3) : WP d 19 15 [l0, l1, l2, l3, l4, l5, l6, l7, l8, l9, l10] (vr r :: st) M Q = WP d 19 18 [l0, l1, l2, l3, l4, l5, l6, l7, l8, l9, l10] (vr (mR M r 3) :: st) M Q := w_getr mC_19 d19_15 fE_3_21 rfl (by rw [hk]; rfl)
theorem d19_18 : decode cX3_worked 18 = .ok (.iconst 2, 1) := by decide +kernel
theorem k19_18 {d : Nat} {l0 l1 l2 l3 l4 l5 l6 l7 l8 l9 l10 : Option PV} {st : List PV} {M : Mem} {Q : Option PV → Mem → Prop} : WP d 19 18 [l0, l1, l2, l3, l4, l5, l6, l7, l8, l9, l10] (st) M Q = WP d 19 19 [l0, l1, l2, l3, l4, l5, l6, l7, l8, l9, l10] (vi 2 :: st) M Q := w_iconst mC_19 d19_18 (by decide)
theorem d19_19 : decode cX3_worked 19 = .ok (.iload_n 3, 1) := by decide +kernel
theorem k19_19 {d : Nat} {x : Int32} {l0 l1 l2 l4 l5 l6 l7 l8 l9 l10 : Option PV} {st : List PV} {M : Mem} {Q : Option PV → Mem → Prop} : WP d 19 19 [l0, l1, l2, some (vi x), l4, l5, l6, l7, l8, l9, l10] (st) M Q = WP d 19 20 [l0, l1, l2, some (vi x), l4, l5, l6, l7, l8, l9, l10] (vi x :: st) M Q := w1 mC_19 d19_19 rfl rfl
theorem d19_20 : decode cX3_worked 20 = .ok (.iastore, 1) := by decide +kernel
theorem k19_20 {d : Nat} {l0 l1 l2 l3 l4 l5 l6 l7 l8 l9 l10 : Option PV} {st : List PV} {M : Mem} {Q : Option PV → Mem → Prop} {r : Nat} {j x : Int32} (hk : mK M r = 13) (hj : inb j (mN M r)) (h1 : r ≠ 1) : WP d 19 20 [l0, l1, l2, l3, l4, l5, l6, l7, l8, l9, l10] (vi x :: vi j :: vr r :: st) M Q = WP d 19 21 [l0, l1, l2, l3, l4, l5, l6, l7, l8, l9, l10] (st) (sI M r (ix j) x) Q := w_iast mC_19 d19_20 hk hj h1
theorem d19_21 : decode cX3_worked 21 = .ok (.aload_n 0, 1) := by decide +kernel
theorem k19_21 {d x : Nat} {l1 l2 l3 l4 l5 l6 l7 l8 l9 l10 : Option PV} {st : List PV} {M : Mem} {Q : Option PV → Mem → Prop} : WP d 19 21 [some (vr x), l1, l2, l3, l4, l5, l6, l7, l8, l9, l10] (st) M Q = WP d 19 22 [some (vr x), l1, l2, l3, l4, l5, l6, l7, l8, l9, l10] (vr x :: st) M Q := w1 mC_19 d19_21 rfl rfl
theorem d19_22 : decode cX3_worked 22 = .ok (.getfield 21, 3) := by decide +kernel
theorem k19_22 {d : Nat} {l0 l1 l2 l3 l4 l5 l6 l7 l8 l9 l10 : Option PV} {st : List PV} {M : Mem} {Q : Option PV → Mem → Prop} {r : Nat} (hk : mK M r = 3) : WP d 19 22 [l0, l1, l2, l3, l4, l5, l6, l7, l8, l9, l10] (vr r :: st) M Q = WP d 19 25 [l0, l1, l2, l3, l4, l5, l6, l7, l8, l9, l10] (vr (mR M r 3) :: st) M Q := w_getr mC_19 d19_22 fE_3_21 rfl (by rw [hk]; rfl)
theorem d19_25 : decode cX3_worked 25 = .ok (.iconst 3, 1) := by decide +kernel
theorem k19_25 {d : Nat} {l0 l1 l2 l3 l4 l5 l6 l7 l8 l9 l10 : Option PV} {st : List PV} {M : Mem} {Q : Option PV → Mem → Prop} : WP d 19 25 [l0, l1, l2, l3, l4, l5, l6, l7, l8, l9, l10] (st) M Q = WP d 19 26 [l0, l1, l2, l3, l4, l5, l6, l7, l8, l9, l10] (vi 3 :: st) M Q := w_iconst mC_19 d19_25 (by decide)
theorem d19_26 : decode cX3_worked 26 = .ok (.iload 4, 2) := by decide +kernel
theorem k19_26 {d : Nat} {x : Int32} {l0 l1 l2 l3 l5 l6 l7 l8 l9 l10 : Option PV} {st : List PV} {M : Mem} {Q : Option PV → Mem → Prop} : WP d 19 26 [l0, l1, l2, l3, some (vi x), l5, l6, l7, l8, l9, l10] (st) M Q = WP d 19 28 [l0, l1, l2, l3, some (vi x), l5, l6, l7, l8, l9, l10] (vi x :: st) M Q := w1 mC_19 d19_26 rfl rfl
theorem d19_28 : decode cX3_worked 28 = .ok (.iastore, 1) := by decide +kernel
theorem k19_28 {d : Nat} {l0 l1 l2 l3 l4 l5 l6 l7 l8 l9 l10 : Option PV} {st : List PV} {M : Mem} {Q : Option PV → Mem → Prop} {r : Nat} {j x : Int32} (hk : mK M r = 13) (hj : inb j (mN M r)) (h1 : r ≠ 1) : WP d 19 28 [l0, l1, l2, l3, l4, l5, l6, l7, l8, l9, l10] (vi x :: vi j :: vr r :: st) M Q = WP d 19 29 [l0, l1, l2, l3, l4, l5, l6, l7, l8, l9, l10] (st) (sI M r (ix j) x) Q := w_iast mC_19 d19_28 hk hj h1
theorem d19_29 : decode cX3_worked 29 = .ok (.aload_n 0, 1) := by decide +kernel
theorem k19_29 {d x : Nat} {l1 l2 l3 l4 l5 l6 l7 l8 l9 l10 : Option PV} {st : List PV} {M : Mem} {Q : Option PV → Mem → Prop} : WP d 19 29 [some (vr x), l1, l2, l3, l4, l5, l6, l7, l8, l9, l10] (st) M Q = WP d 19 30 [some (vr x), l1, l2, l3, l4, l5, l6, l7, l8, l9, l10] (vr x :: st) M Q := w1 mC_19 d19_29 rfl rfl
theorem d19_30 : decode cX3_worked 30 = .ok (.getfield 21, 3) := by decide +kernel
theorem k19_30 {d : Nat} {l0 l1 l2 l3 l4 l5 l6 l7 l8 l9 l10 : Option PV} {st : List PV} {M : Mem} {Q : Option PV → Mem → Prop} {r : Nat} (hk : mK M r = 3) : WP d 19 30 [l0, l1, l2, l3, l4, l5, l6, l7, l8, l9, l10] (vr r :: st) M Q = WP d 19 33 [l0, l1, l2, l3, l4, l5, l6, l7, l8, l9, l10] (vr (mR M r 3) :: st) M Q := w_getr mC_19 d19_30 fE_3_21 rfl (by rw [hk]; rfl)
theorem d19_33 : decode cX3_worked 33 = .ok (.iconst 4, 1) := by decide +kernel
theorem k19_33 {d : Nat} {l0 l1 l2 l3 l4 l5 l6 l7 l8 l9 l10 : Option PV} {st : List PV} {M : Mem} {Q : Option PV → Mem → Prop} : WP d 19 33 [l0, l1, l2, l3, l4, l5, l6, l7, l8, l9, l10] (st) M Q = WP d 19 34 [l0, l1, l2, l3, l4, l5, l6, l7, l8, l9, l10] (vi 4 :: st) M Q := w_iconst mC_19 d19_33 (by decide)
theorem d19_34 : decode cX3_worked 34 = .ok (.iload 5, 2) := by decide +kernel
theorem k19_34 {d : Nat} {x : Int32} {l0 l1 l2 l3 l4 l6 l7 l8 l9 l10 : Option PV} {st : List PV} {M : Mem} {Q : Option PV → Mem → Prop} : WP d 19 34 [l0, l1, l2, l3, l4, some (vi x), l6, l7, l8, l9, l10] (st) M Q = WP d 19 36 [l0, l1, l2, l3, l4, some (vi x), l6, l7, l8, l9, l10] (vi x :: st) M Q := w1 mC_19 d19_34 rfl rfl
theorem d19_36 : decode cX3_worked 36 = .ok (.iastore, 1) := by decide +kernel
theorem k19_36 {d : Nat} {l0 l1 l2 l3 l4 l5 l6 l7 l8 l9 l10 : Option PV} {st : List PV} {M : Mem} {Q : Option PV → Mem → Prop} {r : Nat} {j x : Int32} (hk : mK M r = 13) (hj : inb j (mN M r)) (h1 : r ≠ 1) : WP d 19 36 [l0, l1, l2, l3, l4, l5, l6, l7, l8, l9, l10] (vi x :: vi j :: vr r :: st) M Q = WP d 19 37 [l0, l1, l2, l3, l4, l5, l6, l7, l8, l9, l10] (st) (sI M r (ix j) x) Q := w_iast mC_19 d19_36 hk hj h1
theorem d19_37 : decode cX3_worked 37 = .ok (.aload_n 0, 1) := by decide +kernel
theorem k19_37 {d x : Nat} {l1 l2 l3 l4 l5 l6 l7 l8 l9 l10 : Option PV} {st : List PV} {M : Mem} {Q : Option PV → Mem → Prop} : WP d 19 37 [some (vr x), l1, l2, l3, l4, l5, l6, l7, l8, l9, l10] (st) M Q = WP d 19 38 [some (vr x), l1, l2, l3, l4, l5, l6, l7, l8, l9, l10] (vr x :: st) M Q := w1 mC_19 d19_37 rfl rfl
theorem d19_38 : decode cX3_worked 38 = .ok (.getfield 21, 3) := by decide +kernel
theorem k19_38 {d : Nat} {l0 l1 l2 l3 l4 l5 l6 l7 l8 l9 l10 : Option PV} {st : List PV} {M : Mem} {Q : Option PV → Mem → Prop} {r : Nat} (hk : mK M r = 3) : WP d 19 38 [l0, l1, l2, l3, l4, l5, l6, l7, l8, l9, l10] (vr r :: st) M Q = WP d 19 41 [l0, l1, l2, l3, l4, l5, l6, l7, l8, l9, l10] (vr (mR M r 3) :: st) M Q := w_getr mC_19 d19_38 fE_3_21 rfl (by rw [hk]; rfl)
theorem d19_41 : decode cX3_worked 41 = .ok (.iconst 5, 1) := by decide +kernel
theorem k19_41 {d : Nat} {l0 l1 l2 l3 l4 l5 l6 l7 l8 l9 l10 : Option PV} {st : List PV} {M : Mem} {Q : Option PV → Mem → Prop} : WP d 19 41 [l0, l1, l2, l3, l4, l5, l6, l7, l8, l9, l10] (st) M Q = WP d 19 42 [l0, l1, l2, l3, l4, l5, l6, l7, l8, l9, l10] (vi 5 :: st) M Q := w_iconst mC_19 d19_41 (by decide)
theorem d19_42 : decode cX3_worked 42 = .ok (.iload 6, 2) := by decide +kernel
theorem k19_42 {d : Nat} {x : Int32} {l0 l1 l2 l3 l4 l5 l7 l8 l9 l10 : Option PV} {st : List PV} {M : Mem} {Q : Option PV → Mem → Prop} : WP d 19 42 [l0, l1, l2, l3, l4, l5, some (vi x), l7, l8, l9, l10] (st) M Q = WP d 19 44 [l0, l1, l2, l3, l4, l5, some (vi x), l7, l8, l9, l10] (vi x :: st) M Q := w1 mC_19 d19_42 rfl rfl
theorem d19_44 : decode cX3_worked 44 = .ok (.iastore, 1) := by decide +kernel
theorem k19_44 {d : Nat} {l0 l1 l2 l3 l4 l5 l6 l7 l8 l9 l10 : Option PV} {st : List PV} {M : Mem} {Q : Option PV → Mem → Prop} {r : Nat} {j x : Int32} (hk : mK M r = 13) (hj : inb j (mN M r)) (h1 : r ≠ 1) : WP d 19 44 [l0, l1, l2, l3, l4, l5, l6, l7, l8, l9, l10] (vi x :: vi j :: vr r :: st) M Q = WP d 19 45 [l0, l1, l2, l3, l4, l5, l6, l7, l8, l9, l10] (st) (sI M r (ix j) x) Q := w_iast mC_19 d19_44 hk hj h1
theorem d19_45 : decode cX3_worked 45 = .ok (.aload_n 0, 1) := by decide +kernel
theorem k19_45 {d x : Nat} {l1 l2 l3 l4 l5 l6 l7 l8 l9 l10 : Option PV} {st : List PV} {M : Mem} {Q : Option PV → Mem → Prop} : WP d 19 45 [some (vr x), l1, l2, l3, l4, l5, l6, l7, l8, l9, l10] (st) M Q = WP d 19 46 [some (vr x), l1, l2, l3, l4, l5, l6, l7, l8, l9, l10] (vr x :: st) M Q := w1 mC_19 d19_45 rfl rfl
theorem d19_46 : decode cX3_worked 46 = .ok (.iconst 0, 1) := by decide +kernel
theorem k19_46 {d : Nat} {l0 l1 l2 l3 l4 l5 l6 l7 l8 l9 l10 : Option PV} {st : List PV} {M : Mem} {Q : Option PV → Mem → Prop} : WP d 19 46 [l0, l1, l2, l3, l4, l5, l6, l7, l8, l9, l10] (st) M Q = WP d 19 47 [l0, l1, l2, l3, l4, l5, l6, l7, l8, l9, l10] (vi 0 :: st) M Q := w_iconst mC_19 d19_46 (by decide)
theorem d19_47 : decode cX3_worked 47 = .ok (.putfield 78, 3) := by decide +kernel
theorem k19_47 {d : Nat} {l0 l1 l2 l3 l4 l5 l6 l7 l8 l9 l10 : Option PV} {st : List PV} {M : Mem} {Q : Option PV → Mem → Prop} {r : Nat} {x : Int32} (hk : mK M r = 3) : WP d 19 47 [l0, l1, l2, l3, l4, l5, l6, l7, l8, l9, l10] (vi x :: vr r :: st) M Q = WP d 19 50 [l0, l1, l2, l3, l4, l5, l6, l7, l8, l9, l10] (st) (sI M r 5 x) Q := w_put mC_19 d19_47 fE_3_78 (by decide +kernel) (by rw [hk]; rfl)
theorem d19_50 : decode cX3_worked 50 = .ok (.iconst 0, 1) := by decide +kernel
theorem k19_50 {d : Nat} {l0 l1 l2 l3 l4 l5 l6 l7 l8 l9 l10 : Option PV} {st : List PV} {M : Mem} {Q : Option PV → Mem → Prop} : WP d 19 50 [l0, l1, l2, l3, l4, l5, l6, l7, l8, l9, l10] (st) M Q = WP d 19 51 [l0, l1, l2, l3, l4, l5, l6, l7, l8, l9, l10] (vi 0 :: st) M Q := w_iconst mC_19 d19_50 (by decide)
theorem d19_51 : decode cX3_worked 51 = .ok (.istore 7, 2) := by decide +kernel
theorem k19_51 {d : Nat} {l0 l1 l2 l3 l4 l5 l6 l7 l8 l9 l10 : Option PV} {st : List PV} {M : Mem} {Q : Option PV → Mem → Prop} {x : Int32} : WP d 19 51 [l0, l1, l2, l3, l4, l5, l6, l7, l8, l9, l10] (vi x :: st) M Q = WP d 19 53 [l0, l1, l2, l3, l4, l5, l6, some (vi x), l8, l9, l10] (st) M Q := w1 mC_19 d19_51 rfl rfl
theorem d19_53 : decode cX3_worked 53 = .ok (.iconst 0, 1) := by decide +kernel
theorem k19_53 {d : Nat} {l0 l1 l2 l3 l4 l5 l6 l7 l8 l9 l10 : Option PV} {st : List PV} {M : Mem} {Q : Option PV → Mem → Prop} : WP d 19 53 [l0, l1, l2, l3, l4, l5, l6, l7, l8, l9, l10] (st) M Q = WP d 19 54 [l0, l1, l2, l3, l4, l5, l6, l7, l8, l9, l10] (vi 0 :: st) M Q := w_iconst mC_19 d19_53 (by decide)
theorem d19_54 : decode cX3_worked 54 = .ok (.istore 8, 2) := by decide +kernel
theorem k19_54 {d : Nat} {l0 l1 l2 l3 l4 l5 l6 l7 l8 l9 l10 : Option PV} {st : List PV} {M : Mem} {Q : Option PV → Mem → Prop} {x : Int32} : WP d 19 54 [l0, l1, l2, l3, l4, l5, l6, l7, l8, l9, l10] (vi x :: st) M Q = WP d 19 56 [l0, l1, l2, l3, l4, l5, l6, l7, some (vi x), l9, l10] (st) M Q := w1 mC_19 d19_54 rfl rfl
theorem d19_56 : decode cX3_worked 56 = .ok (.iload 8, 2) := by decide +kernel
theorem k19_56 {d : Nat} {x : Int32} {l0 l1 l2 l3 l4 l5 l6 l7 l9 l10 : Option PV} {st : List PV} {M : Mem} {Q : Option PV → Mem → Prop} : WP d 19 56 [l0, l1, l2, l3, l4, l5, l6, l7, some (vi x), l9, l10] (st) M Q = WP d 19 58 [l0, l1, l2, l3, l4, l5, l6, l7, some (vi x), l9, l10] (vi x :: st) M Q := w1 mC_19 d19_56 rfl rfl
theorem d19_58 : decode cX3_worked 58 = .ok (.aload_n 0, 1) := by decide +kernel
theorem k19_58 {d x : Nat} {l1 l2 l3 l4 l5 l6 l7 l8 l9 l10 : Option PV} {st : List PV} {M : Mem} {Q : Option PV → Mem → Prop} : WP d 19 58 [some (vr x), l1, l2, l3, l4, l5, l6, l7, l8, l9, l10] (st) M Q = WP d 19 59 [some (vr x), l1, l2, l3, l4, l5, l6, l7, l8, l9, l10] (vr x :: st) M Q := w1 mC_19 d19_58 rfl rfl
theorem d19_59 : decode cX3_worked 59 = .ok (.getfield 24, 3) := by decide +kernel
theorem k19_59 {d : Nat} {l0 l1 l2 l3 l4 l5 l6 l7 l8 l9 l10 : Option PV} {st : List PV} {M : Mem} {Q : Option PV → Mem → Prop} {r : Nat} (hk : mK M r = 3) : WP d 19 59 [l0, l1, l2, l3, l4, l5, l6, l7, l8, l9, l10] (vr r :: st) M Q = WP d 19 62 [l0, l1, l2, l3, l4, l5, l6, l7, l8, l9, l10] (vi (mI M r 4) :: st) M Q := w_get mC_19 d19_59 fE_3_24 rfl (by rw [hk]; rfl)
theorem d19_62 : decode cX3_worked 62 = .ok (.if_icmp .ge 220, 3) := by decide +kernel
theorem k19_62 {d : Nat} {l0 l1 l2 l3 l4 l5 l6 l7 l8 l9 l10 : Option PV} {st : List PV} {M : Mem} {Q : Option PV → Mem → Prop} {x y : Int32} : WP d 19 62 [l0, l1, l2, l3, l4, l5, l6, l7, l8, l9, l10] (vi y :: vi x :: st) M Q = (if y ≤ x then WP d 19 282 [l0, l1, l2, l3, l4, l5, l6, l7, l8, l9, l10] (st) M Q else WP d 19 65 [l0, l1, l2, l3, l4, l5, l6, l7, l8, l9, l10] (st) M Q) := w_ic_ge mC_19 d19_62 (by decide)
theorem d19_65 : decode cX3_worked 65 = .ok (.iload 8, 2) := by decide +kernel
theorem k19_65 {d : Nat} {x : Int32} {l0 l1 l2 l3 l4 l5 l6 l7 l9 l10 : Option PV} {st : List PV} {M : Mem} {Q : Option PV → Mem → Prop} : WP d 19 65 [l0, l1, l2, l3, l4, l5, l6, l7, some (vi x), l9, l10] (st) M Q = WP d 19 67 [l0, l1, l2, l3, l4, l5, l6, l7, some (vi x), l9, l10] (vi x :: st) M Q := w1 mC_19 d19_65 rfl rfl
theorem d19_67 : decode cX3_worked 67 = .ok (.iload 7, 2) := by decide +kernel
theorem k19_67 {d : Nat} {x : Int32} {l0 l1 l2 l3 l4 l5 l6 l8 l9 l10 : Option PV} {st : List PV} {M : Mem} {Q : Option PV → Mem → Prop} : WP d 19 67 [l0, l1, l2, l3, l4, l5, l6, some (vi x), l8, l9, l10] (st) M Q = WP d 19 69 [l0, l1, l2, l3, l4, l5, l6, some (vi x), l8, l9, l10] (vi x :: st) M Q := w1 mC_19 d19_67 rfl rfl
theorem d19_69 : decode cX3_worked 69 = .ok (.if_icmp .ge 6, 3) := by decide +kernel
theorem k19_69 {d : Nat} {l0 l1 l2 l3 l4 l5 l6 l7 l8 l9 l10 : Option PV} {st : List PV} {M : Mem} {Q : Option PV → Mem → Prop} {x y : Int32} : WP d 19 69 [l0, l1, l2, l3, l4, l5, l6, l7, l8, l9, l10] (vi y :: vi x :: st) M Q = (if y ≤ x then WP d 19 75 [l0, l1, l2, l3, l4, l5, l6, l7, l8, l9, l10] (st) M Q else WP d 19 72 [l0, l1, l2, l3, l4, l5, l6, l7, l8, l9, l10] (st) M Q) := w_ic_ge mC_19 d19_69 (by decide)
theorem d19_72 : decode cX3_worked 72 = .ok (.goto 204, 3) := by decide +kernel
theorem k19_72 {d : Nat} {l0 l1 l2 l3 l4 l5 l6 l7 l8 l9 l10 : Option PV} {st : List PV} {M : Mem} {Q : Option PV → Mem → Prop} : WP d 19 72 [l0, l1, l2, l3, l4, l5, l6, l7, l8, l9, l10] (st) M Q = WP d 19 276 [l0, l1, l2, l3, l4, l5, l6, l7, l8, l9, l10] (st) M Q := w_goto mC_19 d19_72 (by decide)
theorem d19_75 : decode cX3_worked 75 = .ok (.aload_n 0, 1) := by decide +kernel
theorem k19_75 {d x : Nat} {l1 l2 l3 l4 l5 l6 l7 l8 l9 l10 : Option PV} {st : List PV} {M : Mem} {Q : Option PV → Mem → Prop} : WP d 19 75 [some (vr x), l1, l2, l3, l4, l5, l6, l7, l8, l9, l10] (st) M Q = WP d 19 76 [some (vr x), l1, l2, l3, l4, l5, l6, l7, l8, l9, l10] (vr x :: st) M Q := w1 mC_19 d19_75 rfl rfl
theorem d19_76 : decode cX3_worked 76 = .ok (.getfield 11, 3) := by decide +kernel
theorem k19_76 {d : Nat} {l0 l1 l2 l3 l4 l5 l6 l7 l8 l9 l10 : Option PV} {st : List PV} {M : Mem} {Q : Option PV → Mem → Prop} {r : Nat} (hk : mK M r = 3) : WP d 19 76 [l0, l1, l2, l3, l4, l5, l6, l7, l8, l9, l10] (vr r :: st) M Q = WP d 19 79 [l0, l1, l2, l3, l4, l5, l6, l7, l8, l9, l10] (vr (mR M r 0) :: st) M Q := w_getr mC_19 d19_76 fE_3_11 rfl (by rw [hk]; rfl)
theorem d19_79 : decode cX3_worked 79 = .ok (.iload 8, 2) := by decide +kernel
theorem k19_79 {d : Nat} {x : Int32} {l0 l1 l2 l3 l4 l5 l6 l7 l9 l10 : Option PV} {st : List PV} {M : Mem} {Q : Option PV → Mem → Prop} : WP d 19 79 [l0, l1, l2, l3, l4, l5, l6, l7, some (vi x), l9, l10] (st) M Q = WP d 19 81 [l0, l1, l2, l3, l4, l5, l6, l7, some (vi x), l9, l10] (vi x :: st) M Q := w1 mC_19 d19_79 rfl rfl
theorem d19_81 : decode cX3_worked 81 = .ok (.iaload, 1) := by decide +kernel
theorem k19_81 {d : Nat} {l0 l1 l2 l3 l4 l5 l6 l7 l8 l9 l10 : Option PV} {st : List PV} {M : Mem} {Q : Option PV → Mem → Prop} {r : Nat} {j : Int32} (hk : mK M r = 13) (hj : inb j (mN M r)) (_h1 : r ≠ 1) : WP d 19 81 [l0, l1, l2, l3, l4, l5, l6, l7, l8, l9, l10] (vi j :: vr r :: st) M Q = WP d 19 82 [l0, l1, l2, l3, l4, l5, l6, l7, l8, l9, l10] (vi (mI M r (ix j)) :: st) M Q := w_iald mC_19 d19_81 hk hj
theorem d19_82 : decode cX3_worked 82 = .ok (.istore 9, 2) := by decide +kernel
theorem k19_82 {d : Nat} {l0 l1 l2 l3 l4 l5 l6 l7 l8 l9 l10 : Option PV} {st : List PV} {M : Mem} {Q : Option PV → Mem → Prop} {x : Int32} : WP d 19 82 [l0, l1, l2, l3, l4, l5, l6, l7, l8, l9, l10] (vi x :: st) M Q = WP d 19 84 [l0, l1, l2, l3, l4, l5, l6, l7, l8, some (vi x), l10] (st) M Q := w1 mC_19 d19_82 rfl rfl
theorem d19_84 : decode cX3_worked 84 = .ok (.iload 9, 2) := by decide +kernel
theorem k19_84 {d : Nat} {x : Int32} {l0 l1 l2 l3 l4 l5 l6 l7 l8 l10 : Option PV} {st : List PV} {M : Mem} {Q : Option PV → Mem → Prop} : WP d 19 84 [l0, l1, l2, l3, l4, l5, l6, l7, l8, some (vi x), l10] (st) M Q = WP d 19 86 [l0, l1, l2, l3, l4, l5, l6, l7, l8, some (vi x), l10] (vi x :: st) M Q := w1 mC_19 d19_84 rfl rfl
theorem d19_86 : decode cX3_worked 86 = .ok (.lookupswitch 169 #[(33, 138), (35, 58), (59, 110), (63, 115), (110, 72), (126, 157)], 58) := by decide +kernel
theorem k19_86c33 {d : Nat} {l0 l1 l2 l3 l4 l5 l6 l7 l8 l9 l10 : Option PV} {st : List PV} {M : Mem} {Q : Option PV → Mem → Prop} : WP d 19 86 [l0, l1, l2, l3, l4, l5, l6, l7, l8, l9, l10] (vi 33 :: st) M Q = WP d 19 224 [l0, l1, l2, l3, l4, l5, l6, l7, l8, l9, l10] (st) M Q := w_lsw mC_19 d19_86 (by decide +kernel)
theorem k19_86c35 {d : Nat} {l0 l1 l2 l3 l4 l5 l6 l7 l8 l9 l10 : Option PV} {st : List PV} {M : Mem} {Q : Option PV → Mem → Prop} : WP d 19 86 [l0, l1, l2, l3, l4, l5, l6, l7, l8, l9, l10] (vi 35 :: st) M Q = WP d 19 144 [l0, l1, l2, l3, l4, l5, l6, l7, l8, l9, l10] (st) M Q := w_lsw mC_19 d19_86 (by decide +kernel)
theorem k19_86c59 {d : Nat} {l0 l1 l2 l3 l4 l5 l6 l7 l8 l9 l10 : Option PV} {st : List PV} {M : Mem} {Q : Option PV → Mem → Prop} : WP d 19 86 [l0, l1, l2, l3, l4, l5, l6, l7, l8, l9, l10] (vi 59 :: st) M Q = WP d 19 196 [l0, l1, l2, l3, l4, l5, l6, l7, l8, l9, l10] (st) M Q := w_lsw mC_19 d19_86 (by decide +kernel)
theorem k19_86c63 {d : Nat} {l0 l1 l2 l3 l4 l5 l6 l7 l8 l9 l10 : Option PV} {st : List PV} {M : Mem} {Q : Option PV → Mem → Prop} : WP d 19 86 [l0, l1, l2, l3, l4, l5, l6, l7, l8, l9, l10] (vi 63 :: st) M Q = WP d 19 201 [l0, l1, l2, l3, l4, l5, l6, l7, l8, l9, l10] (st) M Q := w_lsw mC_19 d19_86 (by decide +kernel)
theorem k19_86c110 {d : Nat} {l0 l1 l2 l3 l4 l5 l6 l7 l8 l9 l10 : Option PV} {st : List PV} {M : Mem} {Q : Option PV → Mem → Prop} : WP d 19 86 [l0, l1, l2, l3, l4, l5, l6, l7, l8, l9, l10] (vi 110 :: st) M Q = WP d 19 158 [l0, l1, l2, l3, l4, l5, l6, l7, l8, l9, l10] (st) M Q := w_lsw mC_19 d19_86 (by decide +kernel)
theorem k19_86c126 {d : Nat} {l0 l1 l2 l3 l4 l5 l6 l7 l8 l9 l10 : Option PV} {st : List PV} {M : Mem} {Q : Option PV → Mem → Prop} : WP d 19 86 [l0, l1, l2, l3, l4, l5, l6, l7, l8, l9, l10] (vi 126 :: st) M Q = WP d 19 243 [l0, l1, l2, l3, l4, l5, l6, l7, l8, l9, l10] (st) M Q := w_lsw mC_19 d19_86 (by decide +kernel)
theorem k19_86 {d : Nat} {l0 l1 l2 l3 l4 l5 l6 l7 l8 l9 l10 : Option PV} {st : List PV} {M : Mem} {Q : Option PV → Mem → Prop} {x : Int32} (h0 : x ≠ 33) (h1 : x ≠ 35) (h2 : x ≠ 59) (h3 : x ≠ 63) (h4 : x ≠ 110) (h5 : x ≠ 126) : WP d 19 86 [l0, l1, l2, l3, l4, l5, l6, l7, l8, l9, l10] (vi x :: st) M Q = WP d 19 255 [l0, l1, l2, l3, l4, l5, l6, l7, l8, l9, l10] (st) M Q := w_lsw mC_19 d19_86 (by unfold lswt; rw [if_pos (by decide)]; rw [lv_osw h0 (by decide)]; rw [lv_osw h1 (by decide)]; rw [lv_osw h2 (by decide)]; rw [lv_osw h3 (by decide)]; rw [lv_osw h4 (by decide)]; rw [lv_osw h5 (by decide)]; exact (by decide : tgt 86 169 = some 255))
theorem d19_144 : decode cX3_worked 144 = .ok (.aload_n 0, 1) := by decide +kernel
theorem k19_144 {d x : Nat} {l1 l2 l3 l4 l5 l6 l7 l8 l9 l10 : Option PV} {st : List PV} {M : Mem} {Q : Option PV → Mem → Prop} : WP d 19 144 [some (vr x), l1, l2, l3, l4, l5, l6, l7, l8, l9, l10] (st) M Q = WP d 19 145 [some (vr x), l1, l2, l3, l4, l5, l6, l7, l8, l9, l10] (vr x :: st) M Q := w1 mC_19 d19_144 rfl rfl
theorem d19_145 : decode cX3_worked 145 = .ok (.aload_n 0, 1) := by decide +kernel
theorem k19_145 {d x : Nat} {l1 l2 l3 l4 l5 l6 l7 l8 l9 l10 : Option PV} {st : List PV} {M : Mem} {Q : Option PV → Mem → Prop} : WP d 19 145 [some (vr x), l1, l2, l3, l4, l5, l6, l7, l8, l9, l10] (st) M Q = WP d 19 146 [some (vr x), l1, l2, l3, l4, l5, l6, l7, l8, l9, l10] (vr x :: st) M Q := w1 mC_19 d19_145 rfl rfl
theorem d19_146 : decode cX3_worked 146 = .ok (.getfield 15, 3) := by decide +kernel
theorem k19_146 {d : Nat} {l0 l1 l2 l3 l4 l5 l6 l7 l8 l9 l10 : Option PV} {st : List PV} {M : Mem} {Q : Option PV → Mem → Prop} {r : Nat} (hk : mK M r = 3) : WP d 19 146 [l0, l1, l2, l3, l4, l5, l6, l7, l8, l9, l10] (vr r :: st) M Q = WP d 19 149 [l0, l1, l2, l3, l4, l5, l6, l7, l8, l9, l10] (vr (mR M r 1) :: st) M Q := w_getr mC_19 d19_146 fE_3_15 rfl (by rw [hk]; rfl)
theorem d19_149 : decode cX3_worked 149 = .ok (.iload 8, 2) := by decide +kernel
theorem k19_149 {d : Nat} {x : Int32} {l0 l1 l2 l3 l4 l5 l6 l7 l9 l10 : Option PV} {st : List PV} {M : Mem} {Q : Option PV → Mem → Prop} : WP d 19 149 [l0, l1, l2, l3, l4, l5, l6, l7, some (vi x), l9, l10] (st) M Q = WP d 19 151 [l0, l1, l2, l3, l4, l5, l6, l7, some (vi x), l9, l10] (vi x :: st) M Q := w1 mC_19 d19_149 rfl rfl
theorem d19_151 : decode cX3_worked 151 = .ok (.iaload, 1) := by decide +kernel
theorem k19_151 {d : Nat} {l0 l1 l2 l3 l4 l5 l6 l7 l8 l9 l10 : Option PV} {st : List PV} {M : Mem} {Q : Option PV → Mem → Prop} {r : Nat} {j : Int32} (hk : mK M r = 13) (hj : inb j (mN M r)) (_h1 : r ≠ 1) : WP d 19 151 [l0, l1, l2, l3, l4, l5, l6, l7, l8, l9, l10] (vi j :: vr r :: st) M Q = WP d 19 152 [l0, l1, l2, l3, l4, l5, l6, l7, l8, l9, l10] (vi (mI M r (ix j)) :: st) M Q := w_iald mC_19 d19_151 hk hj
theorem d19_152 : decode cX3_worked 152 = .ok (.invokevirtual 81, 3) := by decide +kernel
theorem k19_152 {d : Nat} {l0 l1 l2 l3 l4 l5 l6 l7 l8 l9 l10 : Option PV} {st : List PV} {M : Mem} {Q : Option PV → Mem → Prop} {a0 : Int32} {r : Nat} (hl : szL st ≤ 8) (hk : mK M r = 3) : WP (d + 1) 19 152 [l0, l1, l2, l3, l4, l5, l6, l7, l8, l9, l10] (vi a0 :: vr r :: st) M Q = WP d 20 0 [some (vr r), some (vi a0)] [] M (fun v M' => WP (d + 1) 19 155 [l0, l1, l2, l3, l4, l5, l6, l7, l8, l9, l10] (psh v st) M' Q) := w_callV mC_19 d19_152 (ci := 3) rfl rfl rfl (Nat.le_of_ble_eq_true rfl) (by decide) rfl hl (Or.inl hk)
theorem d19_155 : decode cX3_worked 155 = .ok (.goto 121, 3) := by decide +kernel
theorem k19_155 {d : Nat} {l0 l1 l2 l3 l4 l5 l6 l7 l8 l9 l10 : Option PV} {st : List PV} {M : Mem} {Q : Option PV → Mem → Prop} : WP d 19 155 [l0, l1, l2, l3, l4, l5, l6, l7, l8, l9, l10] (st) M Q = WP d 19 276 [l0, l1, l2, l3, l4, l5, l6, l7, l8, l9, l10] (st) M Q := w_goto mC_19 d19_155 (by decide)
theorem d19_158 : decode cX3_worked 158 = .ok (.aload_n 0, 1) := by decide +kernel
theorem k19_158 {d x : Nat} {l1 l2 l3 l4 l5 l6 l7 l8 l9 l10 : Option PV} {st : List PV} {M : Mem} {Q : Option PV → Mem → Prop} : WP d 19 158 [some (vr x), l1, l2, l3, l4, l5, l6, l7, l8, l9, l10] (st) M Q = WP d 19 159 [some (vr x), l1, l2, l3, l4, l5, l6, l7, l8, l9, l10] (vr x :: st) M Q := w1 mC_19 d19_158 rfl rfl
theorem d19_159 : decode cX3_worked 159 = .ok (.aload_n 0, 1) := by decide +kernel
theorem k19_159 {d x : Nat} {l1 l2 l3 l4 l5 l6 l7 l8 l9 l10 : Option PV} {st : List PV} {M : Mem} {Q : Option PV → Mem → Prop} : WP d 19 159 [some (vr x), l1, l2, l3, l4, l5, l6, l7, l8, l9, l10] (st) M Q = WP d 19 160 [some (vr x), l1, l2, l3, l4, l5, l6, l7, l8, l9, l10] (vr x :: st) M Q := w1 mC_19 d19_159 rfl rfl
theorem d19_160 : decode cX3_worked 160 = .ok (.getfield 15, 3) := by decide +kernel
theorem k19_160 {d : Nat} {l0 l1 l2 l3 l4 l5 l6 l7 l8 l9 l10 : Option PV} {st : List PV} {M : Mem} {Q : Option PV → Mem → Prop} {r : Nat} (hk : mK M r = 3) : WP d 19 160 [l0, l1, l2, l3, l4, l5, l6, l7, l8, l9, l10] (vr r :: st) M Q = WP d 19 163 [l0, l1, l2, l3, l4, l5, l6, l7, l8, l9, l10] (vr (mR M r 1) :: st) M Q := w_getr mC_19 d19_160 fE_3_15 rfl (by rw [hk]; rfl)
theorem d19_163 : decode cX3_worked 163 = .ok (.iload 8, 2) := by decide +kernel
theorem k19_163 {d : Nat} {x : Int32} {l0 l1 l2 l3 l4 l5 l6 l7 l9 l10 : Option PV} {st : List PV} {M : Mem} {Q : Option PV → Mem → Prop} : WP d 19 163 [l0, l1, l2, l3, l4, l5, l6, l7, some (vi x), l9, l10] (st) M Q = WP d 19 165 [l0, l1, l2, l3, l4, l5, l6, l7, some (vi x), l9, l10] (vi x :: st) M Q := w1 mC_19 d19_163 rfl rfl
theorem d19_165 : decode cX3_worked 165 = .ok (.iaload, 1) := by decide +kernel
theorem k19_165 {d : Nat} {l0 l1 l2 l3 l4 l5 l6 l7 l8 l9 l10 : Option PV} {st : List PV} {M : Mem} {Q : Option PV → Mem → Prop} {r : Nat} {j : Int32} (hk : mK M r = 13) (hj : inb j (mN M r)) (_h1 : r ≠ 1) : WP d 19 165 [l0, l1, l2, l3, l4, l5, l6, l7, l8, l9, l10] (vi j :: vr r :: st) M Q = WP d 19 166 [l0, l1, l2, l3, l4, l5, l6, l7, l8, l9, l10] (vi (mI M r (ix j)) :: st) M Q := w_iald mC_19 d19_165 hk hj
theorem d19_166 : decode cX3_worked 166 = .ok (.iconst 0, 1) := by decide +kernel
theorem k19_166 {d : Nat} {l0 l1 l2 l3 l4 l5 l6 l7 l8 l9 l10 : Option PV} {st : List PV} {M : Mem} {Q : Option PV → Mem → Prop} : WP d 19 166 [l0, l1, l2, l3, l4, l5, l6, l7, l8, l9, l10] (st) M Q = WP d 19 167 [l0, l1, l2, l3, l4, l5, l6, l7, l8, l9, l10] (vi 0 :: st) M Q := w_iconst mC_19 d19_166 (by decide)
theorem d19_167 : decode cX3_worked 167 = .ok (.iconst 5, 1) := by decide +kernel
theorem k19_167 {d : Nat} {l0 l1 l2 l3 l4 l5 l6 l7 l8 l9 l10 : Option PV} {st : List PV} {M : Mem} {Q : Option PV → Mem → Prop} : WP d 19 167 [l0, l1, l2, l3, l4, l5, l6, l7, l8, l9, l10] (st) M Q = WP d 19 168 [l0, l1, l2, l3, l4, l5, l6, l7, l8, l9, l10] (vi 5 :: st) M Q := w_iconst mC_19 d19_167 (by decide)
theorem d19_168 : decode cX3_worked 168 = .ok (.invokestatic 74, 3) := by decide +kernel
theorem k19_168 {d : Nat} {l0 l1 l2 l3 l4 l5 l6 l7 l8 l9 l10 : Option PV} {st : List PV} {M : Mem} {Q : Option PV → Mem → Prop} {a0 a1 a2 : Int32} (hl : szL st ≤ 8) : WP (d + 1) 19 168 [l0, l1, l2, l3, l4, l5, l6, l7, l8, l9, l10] (vi a2 :: vi a1 :: vi a0 :: st) M Q = WP d 141 0 [some (vi a0), some (vi a1), some (vi a2)] [] M (fun v M' => WP (d + 1) 19 171 [l0, l1, l2, l3, l4, l5, l6, l7, l8, l9, l10] (psh v st) M' Q) := w_callN mC_19 d19_168 rfl rfl rfl (Nat.le_of_ble_eq_true rfl) (by decide) rfl hl
theorem d19_171 : decode cX3_worked 171 = .ok (.ifCond .eq 18, 3) := by decide +kernel
theorem k19_171 {d : Nat} {l0 l1 l2 l3 l4 l5 l6 l7 l8 l9 l10 : Option PV} {st : List PV} {M : Mem} {Q : Option PV → Mem → Prop} {x : Int32} : WP d 19 171 [l0, l1, l2, l3, l4, l5, l6, l7, l8, l9, l10] (vi x :: st) M Q = (if x = 0 then WP d 19 189 [l0, l1, l2, l3, l4, l5, l6, l7, l8, l9, l10] (st) M Q else WP d 19 174 [l0, l1, l2, l3, l4, l5, l6, l7, l8, l9, l10] (st) M Q) := w_if_eq mC_19 d19_171 (by decide)
theorem d19_174 : decode cX3_worked 174 = .ok (.aload_n 0, 1) := by decide +kernel
theorem k19_174 {d x : Nat} {l1 l2 l3 l4 l5 l6 l7 l8 l9 l10 : Option PV} {st : List PV} {M : Mem} {Q : Option PV → Mem → Prop} : WP d 19 174 [some (vr x), l1, l2, l3, l4, l5, l6, l7, l8, l9, l10] (st) M Q = WP d 19 175 [some (vr x), l1, l2, l3, l4, l5, l6, l7, l8, l9, l10] (vr x :: st) M Q := w1 mC_19 d19_174 rfl rfl
theorem d19_175 : decode cX3_worked 175 = .ok (.getfield 21, 3) := by decide +kernel
theorem k19_175 {d : Nat} {l0 l1 l2 l3 l4 l5 l6 l7 l8 l9 l10 : Option PV} {st : List PV} {M : Mem} {Q : Option PV → Mem → Prop} {r : Nat} (hk : mK M r = 3) : WP d 19 175 [l0, l1, l2, l3, l4, l5, l6, l7, l8, l9, l10] (vr r :: st) M Q = WP d 19 178 [l0, l1, l2, l3, l4, l5, l6, l7, l8, l9, l10] (vr (mR M r 3) :: st) M Q := w_getr mC_19 d19_175 fE_3_21 rfl (by rw [hk]; rfl)
theorem d19_178 : decode cX3_worked 178 = .ok (.aload_n 0, 1) := by decide +kernel
theorem k19_178 {d x : Nat} {l1 l2 l3 l4 l5 l6 l7 l8 l9 l10 : Option PV} {st : List PV} {M : Mem} {Q : Option PV → Mem → Prop} : WP d 19 178 [some (vr x), l1, l2, l3, l4, l5, l6, l7, l8, l9, l10] (st) M Q = WP d 19 179 [some (vr x), l1, l2, l3, l4, l5, l6, l7, l8, l9, l10] (vr x :: st) M Q := w1 mC_19 d19_178 rfl rfl
theorem d19_179 : decode cX3_worked 179 = .ok (.getfield 15, 3) := by decide +kernel
theorem k19_179 {d : Nat} {l0 l1 l2 l3 l4 l5 l6 l7 l8 l9 l10 : Option PV} {st : List PV} {M : Mem} {Q : Option PV → Mem → Prop} {r : Nat} (hk : mK M r = 3) : WP d 19 179 [l0, l1, l2, l3, l4, l5, l6, l7, l8, l9, l10] (vr r :: st) M Q = WP d 19 182 [l0, l1, l2, l3, l4, l5, l6, l7, l8, l9, l10] (vr (mR M r 1) :: st) M Q := w_getr mC_19 d19_179 fE_3_15 rfl (by rw [hk]; rfl)
theorem d19_182 : decode cX3_worked 182 = .ok (.iload 8, 2) := by decide +kernel
theorem k19_182 {d : Nat} {x : Int32} {l0 l1 l2 l3 l4 l5 l6 l7 l9 l10 : Option PV} {st : List PV} {M : Mem} {Q : Option PV → Mem → Prop} : WP d 19 182 [l0, l1, l2, l3, l4, l5, l6, l7, some (vi x), l9, l10] (st) M Q = WP d 19 184 [l0, l1, l2, l3, l4, l5, l6, l7, some (vi x), l9, l10] (vi x :: st) M Q := w1 mC_19 d19_182 rfl rfl
theorem d19_184 : decode cX3_worked 184 = .ok (.iaload, 1) := by decide +kernel
theorem k19_184 {d : Nat} {l0 l1 l2 l3 l4 l5 l6 l7 l8 l9 l10 : Option PV} {st : List PV} {M : Mem} {Q : Option PV → Mem → Prop} {r : Nat} {j : Int32} (hk : mK M r = 13) (hj : inb j (mN M r)) (_h1 : r ≠ 1) : WP d 19 184 [l0, l1, l2, l3, l4, l5, l6, l7, l8, l9, l10] (vi j :: vr r :: st) M Q = WP d 19 185 [l0, l1, l2, l3, l4, l5, l6, l7, l8, l9, l10] (vi (mI M r (ix j)) :: st) M Q := w_iald mC_19 d19_184 hk hj
theorem d19_185 : decode cX3_worked 185 = .ok (.iaload, 1) := by decide +kernel
theorem k19_185 {d : Nat} {l0 l1 l2 l3 l4 l5 l6 l7 l8 l9 l10 : Option PV} {st : List PV} {M : Mem} {Q : Option PV → Mem → Prop} {r : Nat} {j : Int32} (hk : mK M r = 13) (hj : inb j (mN M r)) (_h1 : r ≠ 1) : WP d 19 185 [l0, l1, l2, l3, l4, l5, l6, l7, l8, l9, l10] (vi j :: vr r :: st) M Q = WP d 19 186 [l0, l1, l2, l3, l4, l5, l6, l7, l8, l9, l10] (vi (mI M r (ix j)) :: st) M Q := w_iald mC_19 d19_185 hk hj
theorem d19_186 : decode cX3_worked 186 = .ok (.goto 4, 3) := by decide +kernel
theorem k19_186 {d : Nat} {l0 l1 l2 l3 l4 l5 l6 l7 l8 l9 l10 : Option PV} {st : List PV} {M : Mem} {Q : Option PV → Mem → Prop} : WP d 19 186 [l0, l1, l2, l3, l4, l5, l6, l7, l8, l9, l10] (st) M Q = WP d 19 190 [l0, l1, l2, l3, l4, l5, l6, l7, l8, l9, l10] (st) M Q := w_goto mC_19 d19_186 (by decide)
theorem d19_189 : decode cX3_worked 189 = .ok (.iconst 0, 1) := by decide +kernel
theorem k19_189 {d : Nat} {l0 l1 l2 l3 l4 l5 l6 l7 l8 l9 l10 : Option PV} {st : List PV} {M : Mem} {Q : Option PV → Mem → Prop} : WP d 19 189 [l0, l1, l2, l3, l4, l5, l6, l7, l8, l9, l10] (st) M Q = WP d 19 190 [l0, l1, l2, l3, l4, l5, l6, l7, l8, l9, l10] (vi 0 :: st) M Q := w_iconst mC_19 d19_189 (by decide)
theorem d19_190 : decode cX3_worked 190 = .ok (.invokevirtual 81, 3) := by decide +kernel
theorem k19_190 {d : Nat} {l0 l1 l2 l3 l4 l5 l6 l7 l8 l9 l10 : Option PV} {st : List PV} {M : Mem} {Q : Option PV → Mem → Prop} {a0 : Int32} {r : Nat} (hl : szL st ≤ 8) (hk : mK M r = 3) : WP (d + 1) 19 190 [l0, l1, l2, l3, l4, l5, l6, l7, l8, l9, l10] (vi a0 :: vr r :: st) M Q = WP d 20 0 [some (vr r), some (vi a0)] [] M (fun v M' => WP (d + 1) 19 193 [l0, l1, l2, l3, l4, l5, l6, l7, l8, l9, l10] (psh v st) M' Q) := w_callV mC_19 d19_190 (ci := 3) rfl rfl rfl (Nat.le_of_ble_eq_true rfl) (by decide) rfl hl (Or.inl hk)
theorem d19_193 : decode cX3_worked 193 = .ok (.goto 83, 3) := by decide +kernel
theorem k19_193 {d : Nat} {l0 l1 l2 l3 l4 l5 l6 l7 l8 l9 l10 : Option PV} {st : List PV} {M : Mem} {Q : Option PV → Mem → Prop} : WP d 19 193 [l0, l1, l2, l3, l4, l5, l6, l7, l8, l9, l10] (st) M Q = WP d 19 276 [l0, l1, l2, l3, l4, l5, l6, l7, l8, l9, l10] (st) M Q := w_goto mC_19 d19_193 (by decide)
theorem d19_196 : decode cX3_worked 196 = .ok (.aload_n 0, 1) := by decide +kernel
theorem k19_196 {d x : Nat} {l1 l2 l3 l4 l5 l6 l7 l8 l9 l10 : Option PV} {st : List PV} {M : Mem} {Q : Option PV → Mem → Prop} : WP d 19 196 [some (vr x), l1, l2, l3, l4, l5, l6, l7, l8, l9, l10] (st) M Q = WP d 19 197 [some (vr x), l1, l2, l3, l4, l5, l6, l7, l8, l9, l10] (vr x :: st) M Q := w1 mC_19 d19_196 rfl rfl
theorem d19_197 : decode cX3_worked 197 = .ok (.invokevirtual 85, 3) := by decide +kernel
theorem k19_197 {d : Nat} {l0 l1 l2 l3 l4 l5 l6 l7 l8 l9 l10 : Option PV} {st : List PV} {M : Mem} {Q : Option PV → Mem → Prop} {r : Nat} (hl : szL st ≤ 8) (hk : mK M r = 3) : WP (d + 1) 19 197 [l0, l1, l2, l3, l4, l5, l6, l7, l8, l9, l10] (vr r :: st) M Q = WP d 21 0 [some (vr r)] [] M (fun v M' => WP (d + 1) 19 200 [l0, l1, l2, l3, l4, l5, l6, l7, l8, l9, l10] (psh v st) M' Q) := w_callV mC_19 d19_197 (ci := 3) rfl rfl rfl (Nat.le_of_ble_eq_true rfl) (by decide) rfl hl (Or.inl hk)
theorem d19_200 : decode cX3_worked 200 = .ok (.ireturn, 1) := by decide +kernel
theorem k19_200 {d : Nat} {l0 l1 l2 l3 l4 l5 l6 l7 l8 l9 l10 : Option PV} {M : Mem} {Q : Option PV → Mem → Prop} {x : Int32} : WP d 19 200 [l0, l1, l2, l3, l4, l5, l6, l7, l8, l9, l10] ([vi x]) M Q = Q (some (vi x)) M := w_iret mC_19 d19_200 rfl
theorem d19_201 : decode cX3_worked 201 = .ok (.aload_n 0, 1) := by decide +kernel
theorem k19_201 {d x : Nat} {l1 l2 l3 l4 l5 l6 l7 l8 l9 l10 : Option PV} {st : List PV} {M : Mem} {Q : Option PV → Mem → Prop} : WP d 19 201 [some (vr x), l1, l2, l3, l4, l5, l6, l7, l8, l9, l10] (st) M Q = WP d 19 202 [some (vr x), l1, l2, l3, l4, l5, l6, l7, l8, l9, l10] (vr x :: st) M Q := w1 mC_19 d19_201 rfl rfl
theorem d19_202 : decode cX3_worked 202 = .ok (.invokevirtual 85, 3) := by decide +kernel
theorem k19_202 {d : Nat} {l0 l1 l2 l3 l4 l5 l6 l7 l8 l9 l10 : Option PV} {st : List PV} {M : Mem} {Q : Option PV → Mem → Prop} {r : Nat} (hl : szL st ≤ 8) (hk : mK M r = 3) : WP (d + 1) 19 202 [l0, l1, l2, l3, l4, l5, l6, l7, l8, l9, l10] (vr r :: st) M Q = WP d 21 0 [some (vr r)] [] M (fun v M' => WP (d + 1) 19 205 [l0, l1, l2, l3, l4, l5, l6, l7, l8, l9, l10] (psh v st) M' Q) := w_callV mC_19 d19_202 (ci := 3) rfl rfl rfl (Nat.le_of_ble_eq_true rfl) (by decide) rfl hl (Or.inl hk)
theorem d19_205 : decode cX3_worked 205 = .ok (.ifCond .ne 13, 3) := by decide +kernel
theorem k19_205 {d : Nat} {l0 l1 l2 l3 l4 l5 l6 l7 l8 l9 l10 : Option PV} {st : List PV} {M : Mem} {Q : Option PV → Mem → Prop} {x : Int32} : WP d 19 205 [l0, l1, l2, l3, l4, l5, l6, l7, l8, l9, l10] (vi x :: st) M Q = (if x = 0 then WP d 19 208 [l0, l1, l2, l3, l4, l5, l6, l7, l8, l9, l10] (st) M Q else WP d 19 218 [l0, l1, l2, l3, l4, l5, l6, l7, l8, l9, l10] (st) M Q) := w_if_ne mC_19 d19_205 (by decide)
theorem d19_208 : decode cX3_worked 208 = .ok (.aload_n 0, 1) := by decide +kernel
theorem k19_208 {d x : Nat} {l1 l2 l3 l4 l5 l6 l7 l8 l9 l10 : Option PV} {st : List PV} {M : Mem} {Q : Option PV → Mem → Prop} : WP d 19 208 [some (vr x), l1, l2, l3, l4, l5, l6, l7, l8, l9, l10] (st) M Q = WP d 19 209 [some (vr x), l1, l2, l3, l4, l5, l6, l7, l8, l9, l10] (vr x :: st) M Q := w1 mC_19 d19_208 rfl rfl
theorem d19_209 : decode cX3_worked 209 = .ok (.getfield 15, 3) := by decide +kernel
theorem k19_209 {d : Nat} {l0 l1 l2 l3 l4 l5 l6 l7 l8 l9 l10 : Option PV} {st : List PV} {M : Mem} {Q : Option PV → Mem → Prop} {r : Nat} (hk : mK M r = 3) : WP d 19 209 [l0, l1, l2, l3, l4, l5, l6, l7, l8, l9, l10] (vr r :: st) M Q = WP d 19 212 [l0, l1, l2, l3, l4, l5, l6, l7, l8, l9, l10] (vr (mR M r 1) :: st) M Q := w_getr mC_19 d19_209 fE_3_15 rfl (by rw [hk]; rfl)
theorem d19_212 : decode cX3_worked 212 = .ok (.iload 8, 2) := by decide +kernel
theorem k19_212 {d : Nat} {x : Int32} {l0 l1 l2 l3 l4 l5 l6 l7 l9 l10 : Option PV} {st : List PV} {M : Mem} {Q : Option PV → Mem → Prop} : WP d 19 212 [l0, l1, l2, l3, l4, l5, l6, l7, some (vi x), l9, l10] (st) M Q = WP d 19 214 [l0, l1, l2, l3, l4, l5, l6, l7, some (vi x), l9, l10] (vi x :: st) M Q := w1 mC_19 d19_212 rfl rfl
theorem d19_214 : decode cX3_worked 214 = .ok (.iaload, 1) := by decide +kernel
theorem k19_214 {d : Nat} {l0 l1 l2 l3 l4 l5 l6 l7 l8 l9 l10 : Option PV} {st : List PV} {M : Mem} {Q : Option PV → Mem → Prop} {r : Nat} {j : Int32} (hk : mK M r = 13) (hj : inb j (mN M r)) (_h1 : r ≠ 1) : WP d 19 214 [l0, l1, l2, l3, l4, l5, l6, l7, l8, l9, l10] (vi j :: vr r :: st) M Q = WP d 19 215 [l0, l1, l2, l3, l4, l5, l6, l7, l8, l9, l10] (vi (mI M r (ix j)) :: st) M Q := w_iald mC_19 d19_214 hk hj
theorem d19_215 : decode cX3_worked 215 = .ok (.goto 4, 3) := by decide +kernel
theorem k19_215 {d : Nat} {l0 l1 l2 l3 l4 l5 l6 l7 l8 l9 l10 : Option PV} {st : List PV} {M : Mem} {Q : Option PV → Mem → Prop} : WP d 19 215 [l0, l1, l2, l3, l4, l5, l6, l7, l8, l9, l10] (st) M Q = WP d 19 219 [l0, l1, l2, l3, l4, l5, l6, l7, l8, l9, l10] (st) M Q := w_goto mC_19 d19_215 (by decide)
theorem d19_218 : decode cX3_worked 218 = .ok (.iconst 0, 1) := by decide +kernel
theorem k19_218 {d : Nat} {l0 l1 l2 l3 l4 l5 l6 l7 l8 l9 l10 : Option PV} {st : List PV} {M : Mem} {Q : Option PV → Mem → Prop} : WP d 19 218 [l0, l1, l2, l3, l4, l5, l6, l7, l8, l9, l10] (st) M Q = WP d 19 219 [l0, l1, l2, l3, l4, l5, l6, l7, l8, l9, l10] (vi 0 :: st) M Q := w_iconst mC_19 d19_218 (by decide)
theorem d19_219 : decode cX3_worked 219 = .ok (.istore 7, 2) := by decide +kernel
theorem k19_219 {d : Nat} {l0 l1 l2 l3 l4 l5 l6 l7 l8 l9 l10 : Option PV} {st : List PV} {M : Mem} {Q : Option PV → Mem → Prop} {x : Int32} : WP d 19 219 [l0, l1, l2, l3, l4, l5, l6, l7, l8, l9, l10] (vi x :: st) M Q = WP d 19 221 [l0, l1, l2, l3, l4, l5, l6, some (vi x), l8, l9, l10] (st) M Q := w1 mC_19 d19_219 rfl rfl
theorem d19_221 : decode cX3_worked 221 = .ok (.goto 55, 3) := by decide +kernel
theorem k19_221 {d : Nat} {l0 l1 l2 l3 l4 l5 l6 l7 l8 l9 l10 : Option PV} {st : List PV} {M : Mem} {Q : Option PV → Mem → Prop} : WP d 19 221 [l0, l1, l2, l3, l4, l5, l6, l7, l8, l9, l10] (st) M Q = WP d 19 276 [l0, l1, l2, l3, l4, l5, l6, l7, l8, l9, l10] (st) M Q := w_goto mC_19 d19_221 (by decide)
theorem d19_224 : decode cX3_worked 224 = .ok (.aload_n 0, 1) := by decide +kernel
theorem k19_224 {d x : Nat} {l1 l2 l3 l4 l5 l6 l7 l8 l9 l10 : Option PV} {st : List PV} {M : Mem} {Q : Option PV → Mem → Prop} : WP d 19 224 [some (vr x), l1, l2, l3, l4, l5, l6, l7, l8, l9, l10] (st) M Q = WP d 19 225 [some (vr x), l1, l2, l3, l4, l5, l6, l7, l8, l9, l10] (vr x :: st) M Q := w1 mC_19 d19_224 rfl rfl
theorem d19_225 : decode cX3_worked 225 = .ok (.aload_n 0, 1) := by decide +kernel
theorem k19_225 {d x : Nat} {l1 l2 l3 l4 l5 l6 l7 l8 l9 l10 : Option PV} {st : List PV} {M : Mem} {Q : Option PV → Mem → Prop} : WP d 19 225 [some (vr x), l1, l2, l3, l4, l5, l6, l7, l8, l9, l10] (st) M Q = WP d 19 226 [some (vr x), l1, l2, l3, l4, l5, l6, l7, l8, l9, l10] (vr x :: st) M Q := w1 mC_19 d19_225 rfl rfl
theorem d19_226 : decode cX3_worked 226 = .ok (.invokevirtual 85, 3) := by decide +kernel
theorem k19_226 {d : Nat} {l0 l1 l2 l3 l4 l5 l6 l7 l8 l9 l10 : Option PV} {st : List PV} {M : Mem} {Q : Option PV → Mem → Prop} {r : Nat} (hl : szL st ≤ 8) (hk : mK M r = 3) : WP (d + 1) 19 226 [l0, l1, l2, l3, l4, l5, l6, l7, l8, l9, l10] (vr r :: st) M Q = WP d 21 0 [some (vr r)] [] M (fun v M' => WP (d + 1) 19 229 [l0, l1, l2, l3, l4, l5, l6, l7, l8, l9, l10] (psh v st) M' Q) := w_callV mC_19 d19_226 (ci := 3) rfl rfl rfl (Nat.le_of_ble_eq_true rfl) (by decide) rfl hl (Or.inl hk)
theorem d19_229 : decode cX3_worked 229 = .ok (.ifCond .ne 7, 3) := by decide +kernel
theorem k19_229 {d : Nat} {l0 l1 l2 l3 l4 l5 l6 l7 l8 l9 l10 : Option PV} {st : List PV} {M : Mem} {Q : Option PV → Mem → Prop} {x : Int32} : WP d 19 229 [l0, l1, l2, l3, l4, l5, l6, l7, l8, l9, l10] (vi x :: st) M Q = (if x = 0 then WP d 19 232 [l0, l1, l2, l3, l4, l5, l6, l7, l8, l9, l10] (st) M Q else WP d 19 236 [l0, l1, l2, l3, l4, l5, l6, l7, l8, l9, l10] (st) M Q) := w_if_ne mC_19 d19_229 (by decide)
theorem d19_232 : decode cX3_worked 232 = .ok (.iconst 1, 1) := by decide +kernel
theorem k19_232 {d : Nat} {l0 l1 l2 l3 l4 l5 l6 l7 l8 l9 l10 : Option PV} {st : List PV} {M : Mem} {Q : Option PV → Mem → Prop} : WP d 19 232 [l0, l1, l2, l3, l4, l5, l6, l7, l8, l9, l10] (st) M Q = WP d 19 233 [l0, l1, l2, l3, l4, l5, l6, l7, l8, l9, l10] (vi 1 :: st) M Q := w_iconst mC_19 d19_232 (by decide)
theorem d19_233 : decode cX3_worked 233 = .ok (.goto 4, 3) := by decide +kernel
theorem k19_233 {d : Nat} {l0 l1 l2 l3 l4 l5 l6 l7 l8 l9 l10 : Option PV} {st : List PV} {M : Mem} {Q : Option PV → Mem → Prop} : WP d 19 233 [l0, l1, l2, l3, l4, l5, l6, l7, l8, l9, l10] (st) M Q = WP d 19 237 [l0, l1, l2, l3, l4, l5, l6, l7, l8, l9, l10] (st) M Q := w_goto mC_19 d19_233 (by decide)
theorem d19_236 : decode cX3_worked 236 = .ok (.iconst 0, 1) := by decide +kernel
theorem k19_236 {d : Nat} {l0 l1 l2 l3 l4 l5 l6 l7 l8 l9 l10 : Option PV} {st : List PV} {M : Mem} {Q : Option PV → Mem → Prop} : WP d 19 236 [l0, l1, l2, l3, l4, l5, l6, l7, l8, l9, l10] (st) M Q = WP d 19 237 [l0, l1, l2, l3, l4, l5, l6, l7, l8, l9, l10] (vi 0 :: st) M Q := w_iconst mC_19 d19_236 (by decide)
theorem d19_237 : decode cX3_worked 237 = .ok (.invokevirtual 81, 3) := by decide +kernel
theorem k19_237 {d : Nat} {l0 l1 l2 l3 l4 l5 l6 l7 l8 l9 l10 : Option PV} {st : List PV} {M : Mem} {Q : Option PV → Mem → Prop} {a0 : Int32} {r : Nat} (hl : szL st ≤ 8) (hk : mK M r = 3) : WP (d + 1) 19 237 [l0, l1, l2, l3, l4, l5, l6, l7, l8, l9, l10] (vi a0 :: vr r :: st) M Q = WP d 20 0 [some (vr r), some (vi a0)] [] M (fun v M' => WP (d + 1) 19 240 [l0, l1, l2, l3, l4, l5, l6, l7, l8, l9, l10] (psh v st) M' Q) := w_callV mC_19 d19_237 (ci := 3) rfl rfl rfl (Nat.le_of_ble_eq_true rfl) (by decide) rfl hl (Or.inl hk)
theorem d19_240 : decode cX3_worked 240 = .ok (.goto 36, 3) := by decide +kernel
theorem k19_240 {d : Nat} {l0 l1 l2 l3 l4 l5 l6 l7 l8 l9 l10 : Option PV} {st : List PV} {M : Mem} {Q : Option PV → Mem → Prop} : WP d 19 240 [l0, l1, l2, l3, l4, l5, l6, l7, l8, l9, l10] (st) M Q = WP d 19 276 [l0, l1, l2, l3, l4, l5, l6, l7, l8, l9, l10] (st) M Q := w_goto mC_19 d19_240 (by decide)
theorem d19_243 : decode cX3_worked 243 = .ok (.aload_n 0, 1) := by decide +kernel
theorem k19_243 {d x : Nat} {l1 l2 l3 l4 l5 l6 l7 l8 l9 l10 : Option PV} {st : List PV} {M : Mem} {Q : Option PV → Mem → Prop} : WP d 19 243 [some (vr x), l1, l2, l3, l4, l5, l6, l7, l8, l9, l10] (st) M Q = WP d 19 244 [some (vr x), l1, l2, l3, l4, l5, l6, l7, l8, l9, l10] (vr x :: st) M Q := w1 mC_19 d19_243 rfl rfl
theorem d19_244 : decode cX3_worked 244 = .ok (.aload_n 0, 1) := by decide +kernel
theorem k19_244 {d x : Nat} {l1 l2 l3 l4 l5 l6 l7 l8 l9 l10 : Option PV} {st : List PV} {M : Mem} {Q : Option PV → Mem → Prop} : WP d 19 244 [some (vr x), l1, l2, l3, l4, l5, l6, l7, l8, l9, l10] (st) M Q = WP d 19 245 [some (vr x), l1, l2, l3, l4, l5, l6, l7, l8, l9, l10] (vr x :: st) M Q := w1 mC_19 d19_244 rfl rfl
theorem d19_245 : decode cX3_worked 245 = .ok (.invokevirtual 85, 3) := by decide +kernel
theorem k19_245 {d : Nat} {l0 l1 l2 l3 l4 l5 l6 l7 l8 l9 l10 : Option PV} {st : List PV} {M : Mem} {Q : Option PV → Mem → Prop} {r : Nat} (hl : szL st ≤ 8) (hk : mK M r = 3) : WP (d + 1) 19 245 [l0, l1, l2, l3, l4, l5, l6, l7, l8, l9, l10] (vr r :: st) M Q = WP d 21 0 [some (vr r)] [] M (fun v M' => WP (d + 1) 19 248 [l0, l1, l2, l3, l4, l5, l6, l7, l8, l9, l10] (psh v st) M' Q) := w_callV mC_19 d19_245 (ci := 3) rfl rfl rfl (Nat.le_of_ble_eq_true rfl) (by decide) rfl hl (Or.inl hk)
theorem d19_248 : decode cX3_worked 248 = .ok (.ineg, 1) := by decide +kernel
theorem k19_248 {d : Nat} {l0 l1 l2 l3 l4 l5 l6 l7 l8 l9 l10 : Option PV} {st : List PV} {M : Mem} {Q : Option PV → Mem → Prop} {x : Int32} : WP d 19 248 [l0, l1, l2, l3, l4, l5, l6, l7, l8, l9, l10] (vi x :: st) M Q = WP d 19 249 [l0, l1, l2, l3, l4, l5, l6, l7, l8, l9, l10] (vi (-x) :: st) M Q := w1 mC_19 d19_248 rfl rfl
theorem d19_249 : decode cX3_worked 249 = .ok (.invokevirtual 81, 3) := by decide +kernel
theorem k19_249 {d : Nat} {l0 l1 l2 l3 l4 l5 l6 l7 l8 l9 l10 : Option PV} {st : List PV} {M : Mem} {Q : Option PV → Mem → Prop} {a0 : Int32} {r : Nat} (hl : szL st ≤ 8) (hk : mK M r = 3) : WP (d + 1) 19 249 [l0, l1, l2, l3, l4, l5, l6, l7, l8, l9, l10] (vi a0 :: vr r :: st) M Q = WP d 20 0 [some (vr r), some (vi a0)] [] M (fun v M' => WP (d + 1) 19 252 [l0, l1, l2, l3, l4, l5, l6, l7, l8, l9, l10] (psh v st) M' Q) := w_callV mC_19 d19_249 (ci := 3) rfl rfl rfl (Nat.le_of_ble_eq_true rfl) (by decide) rfl hl (Or.inl hk)
theorem d19_252 : decode cX3_worked 252 = .ok (.goto 24, 3) := by decide +kernel
theorem k19_252 {d : Nat} {l0 l1 l2 l3 l4 l5 l6 l7 l8 l9 l10 : Option PV} {st : List PV} {M : Mem} {Q : Option PV → Mem → Prop} : WP d 19 252 [l0, l1, l2, l3, l4, l5, l6, l7, l8, l9, l10] (st) M Q = WP d 19 276 [l0, l1, l2, l3, l4, l5, l6, l7, l8, l9, l10] (st) M Q := w_goto mC_19 d19_252 (by decide)
theorem d19_255 : decode cX3_worked 255 = .ok (.aload_n 0, 1) := by decide +kernel
theorem k19_255 {d x : Nat} {l1 l2 l3 l4 l5 l6 l7 l8 l9 l10 : Option PV} {st : List PV} {M : Mem} {Q : Option PV → Mem → Prop} : WP d 19 255 [some (vr x), l1, l2, l3, l4, l5, l6, l7, l8, l9, l10] (st) M Q = WP d 19 256 [some (vr x), l1, l2, l3, l4, l5, l6, l7, l8, l9, l10] (vr x :: st) M Q := w1 mC_19 d19_255 rfl rfl
theorem d19_256 : decode cX3_worked 256 = .ok (.invokevirtual 85, 3) := by decide +kernel
theorem k19_256 {d : Nat} {l0 l1 l2 l3 l4 l5 l6 l7 l8 l9 l10 : Option PV} {st : List PV} {M : Mem} {Q : Option PV → Mem → Prop} {r : Nat} (hl : szL st ≤ 8) (hk : mK M r = 3) : WP (d + 1) 19 256 [l0, l1, l2, l3, l4, l5, l6, l7, l8, l9, l10] (vr r :: st) M Q = WP d 21 0 [some (vr r)] [] M (fun v M' => WP (d + 1) 19 259 [l0, l1, l2, l3, l4, l5, l6, l7, l8, l9, l10] (psh v st) M' Q) := w_callV mC_19 d19_256 (ci := 3) rfl rfl rfl (Nat.le_of_ble_eq_true rfl) (by decide) rfl hl (Or.inl hk)
theorem d19_259 : decode cX3_worked 259 = .ok (.istore 10, 2) := by decide +kernel
theorem k19_259 {d : Nat} {l0 l1 l2 l3 l4 l5 l6 l7 l8 l9 l10 : Option PV} {st : List PV} {M : Mem} {Q : Option PV → Mem → Prop} {x : Int32} : WP d 19 259 [l0, l1, l2, l3, l4, l5, l6, l7, l8, l9, l10] (vi x :: st) M Q = WP d 19 261 [l0, l1, l2, l3, l4, l5, l6, l7, l8, l9, some (vi x)] (st) M Q := w1 mC_19 d19_259 rfl rfl
theorem d19_261 : decode cX3_worked 261 = .ok (.aload_n 0, 1) := by decide +kernel
theorem k19_261 {d x : Nat} {l1 l2 l3 l4 l5 l6 l7 l8 l9 l10 : Option PV} {st : List PV} {M : Mem} {Q : Option PV → Mem → Prop} : WP d 19 261 [some (vr x), l1, l2, l3, l4, l5, l6, l7, l8, l9, l10] (st) M Q = WP d 19 262 [some (vr x), l1, l2, l3, l4, l5, l6, l7, l8, l9, l10] (vr x :: st) M Q := w1 mC_19 d19_261 rfl rfl
theorem d19_262 : decode cX3_worked 262 = .ok (.iload 9, 2) := by decide +kernel
theorem k19_262 {d : Nat} {x : Int32} {l0 l1 l2 l3 l4 l5 l6 l7 l8 l10 : Option PV} {st : List PV} {M : Mem} {Q : Option PV → Mem → Prop} : WP d 19 262 [l0, l1, l2, l3, l4, l5, l6, l7, l8, some (vi x), l10] (st) M Q = WP d 19 264 [l0, l1, l2, l3, l4, l5, l6, l7, l8, some (vi x), l10] (vi x :: st) M Q := w1 mC_19 d19_262 rfl rfl
theorem d19_264 : decode cX3_worked 264 = .ok (.aload_n 0, 1) := by decide +kernel
theorem k19_264 {d x : Nat} {l1 l2 l3 l4 l5 l6 l7 l8 l9 l10 : Option PV} {st : List PV} {M : Mem} {Q : Option PV → Mem → Prop} : WP d 19 264 [some (vr x), l1, l2, l3, l4, l5, l6, l7, l8, l9, l10] (st) M Q = WP d 19 265 [some (vr x), l1, l2, l3, l4, l5, l6, l7, l8, l9, l10] (vr x :: st) M Q := w1 mC_19 d19_264 rfl rfl
theorem d19_265 : decode cX3_worked 265 = .ok (.invokevirtual 85, 3) := by decide +kernel
theorem k19_265 {d : Nat} {l0 l1 l2 l3 l4 l5 l6 l7 l8 l9 l10 : Option PV} {st : List PV} {M : Mem} {Q : Option PV → Mem → Prop} {r : Nat} (hl : szL st ≤ 8) (hk : mK M r = 3) : WP (d + 1) 19 265 [l0, l1, l2, l3, l4, l5, l6, l7, l8, l9, l10] (vr r :: st) M Q = WP d 21 0 [some (vr r)] [] M (fun v M' => WP (d + 1) 19 268 [l0, l1, l2, l3, l4, l5, l6, l7, l8, l9, l10] (psh v st) M' Q) := w_callV mC_19 d19_265 (ci := 3) rfl rfl rfl (Nat.le_of_ble_eq_true rfl) (by decide) rfl hl (Or.inl hk)
theorem d19_268 : decode cX3_worked 268 = .ok (.iload 10, 2) := by decide +kernel
theorem k19_268 {d : Nat} {x : Int32} {l0 l1 l2 l3 l4 l5 l6 l7 l8 l9 : Option PV} {st : List PV} {M : Mem} {Q : Option PV → Mem → Prop} : WP d 19 268 [l0, l1, l2, l3, l4, l5, l6, l7, l8, l9, some (vi x)] (st) M Q = WP d 19 270 [l0, l1, l2, l3, l4, l5, l6, l7, l8, l9, some (vi x)] (vi x :: st) M Q := w1 mC_19 d19_268 rfl rfl
theorem d19_270 : decode cX3_worked 270 = .ok (.invokestatic 89, 3) := by decide +kernel
theorem k19_270 {d : Nat} {l0 l1 l2 l3 l4 l5 l6 l7 l8 l9 l10 : Option PV} {st : List PV} {M : Mem} {Q : Option PV → Mem → Prop} {a0 a1 a2 : Int32} (hl : szL st ≤ 8) : WP (d + 1) 19 270 [l0, l1, l2, l3, l4, l5, l6, l7, l8, l9, l10] (vi a2 :: vi a1 :: vi a0 :: st) M Q = WP d 22 0 [some (vi a0), some (vi a1), some (vi a2)] [] M (fun v M' => WP (d + 1) 19 273 [l0, l1, l2, l3, l4, l5, l6, l7, l8, l9, l10] (psh v st) M' Q) := w_callS mC_19 d19_270 rfl rfl (Nat.le_of_ble_eq_true rfl) (by decide) rfl hl
theorem d19_273 : decode cX3_worked 273 = .ok (.invokevirtual 81, 3) := by decide +kernel
theorem k19_273 {d : Nat} {l0 l1 l2 l3 l4 l5 l6 l7 l8 l9 l10 : Option PV} {st : List PV} {M : Mem} {Q : Option PV → Mem → Prop} {a0 : Int32} {r : Nat} (hl : szL st ≤ 8) (hk : mK M r = 3) : WP (d + 1) 19 273 [l0, l1, l2, l3, l4, l5, l6, l7, l8, l9, l10] (vi a0 :: vr r :: st) M Q = WP d 20 0 [some (vr r), some (vi a0)] [] M (fun v M' => WP (d + 1) 19 276 [l0, l1, l2, l3, l4, l5, l6, l7, l8, l9, l10] (psh v st) M' Q) := w_callV mC_19 d19_273 (ci := 3) rfl rfl rfl (Nat.le_of_ble_eq_true rfl) (by decide) rfl hl (Or.inl hk)
theorem d19_276 : decode cX3_worked 276 = .ok (.iinc 8 1, 3) := by decide +kernel
theorem k19_276 {d : Nat} {x : Int32} {l0 l1 l2 l3 l4 l5 l6 l7 l9 l10 : Option PV} {st : List PV} {M : Mem} {Q : Option PV → Mem → Prop} : WP d 19 276 [l0, l1, l2, l3, l4, l5, l6, l7, some (vi x), l9, l10] (st) M Q = WP d 19 279 [l0, l1, l2, l3, l4, l5, l6, l7, some (vi (x + 1)), l9, l10] (st) M Q := w_iinc mC_19 d19_276 rfl (by decide) rfl
theorem d19_279 : decode cX3_worked 279 = .ok (.goto (-223), 3) := by decide +kernel
theorem k19_279 {d : Nat} {l0 l1 l2 l3 l4 l5 l6 l7 l8 l9 l10 : Option PV} {st : List PV} {M : Mem} {Q : Option PV → Mem → Prop} : WP d 19 279 [l0, l1, l2, l3, l4, l5, l6, l7, l8, l9, l10] (st) M Q = WP d 19 56 [l0, l1, l2, l3, l4, l5, l6, l7, l8, l9, l10] (st) M Q := w_goto mC_19 d19_279 (by decide)
theorem d19_282 : decode cX3_worked 282 = .ok (.iconst 0, 1) := by decide +kernel
theorem k19_282 {d : Nat} {l0 l1 l2 l3 l4 l5 l6 l7 l8 l9 l10 : Option PV} {st : List PV} {M : Mem} {Q : Option PV → Mem → Prop} : WP d 19 282 [l0, l1, l2, l3, l4, l5, l6, l7, l8, l9, l10] (st) M Q = WP d 19 283 [l0, l1, l2, l3, l4, l5, l6, l7, l8, l9, l10] (vi 0 :: st) M Q := w_iconst mC_19 d19_282 (by decide)
theorem d19_283 : decode cX3_worked 283 = .ok (.ireturn, 1) := by decide +kernel
theorem k19_283 {d : Nat} {l0 l1 l2 l3 l4 l5 l6 l7 l8 l9 l10 : Option PV} {M : Mem} {Q : Option PV → Mem → Prop} {x : Int32} : WP d 19 283 [l0, l1, l2, l3, l4, l5, l6, l7, l8, l9, l10] ([vi x]) M Q = Q (some (vi x)) M := w_iret mC_19 d19_283 rfl
theorem d20_0 : decode cX3_push 0 = .ok (.aload_n 0, 1) := by decide +kernel
theorem k20_0 {d x : Nat} {l1 : Option PV} {st : List PV} {M : Mem} {Q : Option PV → Mem → Prop} : WP d 20 0 [some (vr x), l1] (st) M Q = WP d 20 1 [some (vr x), l1] (vr x :: st) M Q := w1 mC_20 d20_0 rfl rfl
theorem d20_1 : decode cX3_push 1 = .ok (.getfield 78, 3) := by decide +kernel
theorem k20_1 {d : Nat} {l0 l1 : Option PV} {st : List PV} {M : Mem} {Q : Option PV → Mem → Prop} {r : Nat} (hk : mK M r = 3) : WP d 20 1 [l0, l1] (vr r :: st) M Q = WP d 20 4 [l0, l1] (vi (mI M r 5) :: st) M Q := w_get mC_20 d20_1 fE_3_78 rfl (by rw [hk]; rfl)
theorem d20_4 : decode cX3_push 4 = .ok (.bipush 121, 2) := by decide +kernel
theorem k20_4 {d : Nat} {l0 l1 : Option PV} {st : List PV} {M : Mem} {Q : Option PV → Mem → Prop} : WP d 20 4 [l0, l1] (st) M Q = WP d 20 6 [l0, l1] (vi 121 :: st) M Q := w_bipush mC_20 d20_4 (by decide)
theorem d20_6 : decode cX3_push 6 = .ok (.if_icmp .ge 23, 3) := by decide +kernel
theorem k20_6 {d : Nat} {l0 l1 : Option PV} {st : List PV} {M : Mem} {Q : Option PV → Mem → Prop} {x y : Int32} : WP d 20 6 [l0, l1] (vi y :: vi x :: st) M Q = (if y ≤ x then WP d 20 29 [l0, l1] (st) M Q else WP d 20 9 [l0, l1] (st) M Q) := w_ic_ge mC_20 d20_6 (by decide)
theorem d20_9 : decode cX3_push 9 = .ok (.aload_n 0, 1) := by decide +kernel
theorem k20_9 {d x : Nat} {l1 : Option PV} {st : List PV} {M : Mem} {Q : Option PV → Mem → Prop} : WP d 20 9 [some (vr x), l1] (st) M Q = WP d 20 10 [some (vr x), l1] (vr x :: st) M Q := w1 mC_20 d20_9 rfl rfl
theorem d20_10 : decode cX3_push 10 = .ok (.getfield 18, 3) := by decide +kernel
theorem k20_10 {d : Nat} {l0 l1 : Option PV} {st : List PV} {M : Mem} {Q : Option PV → Mem → Prop} {r : Nat} (hk : mK M r = 3) : WP d 20 10 [l0, l1] (vr r :: st) M Q = WP d 20 13 [l0, l1] (vr (mR M r 2) :: st) M Q := w_getr mC_20 d20_10 fE_3_18 rfl (by rw [hk]; rfl)
theorem d20_13 : decode cX3_push 13 = .ok (.aload_n 0, 1) := by decide +kernel
theorem k20_13 {d x : Nat} {l1 : Option PV} {st : List PV} {M : Mem} {Q : Option PV → Mem → Prop} : WP d 20 13 [some (vr x), l1] (st) M Q = WP d 20 14 [some (vr x), l1] (vr x :: st) M Q := w1 mC_20 d20_13 rfl rfl
theorem d20_14 : decode cX3_push 14 = .ok (.getfield 78, 3) := by decide +kernel
theorem k20_14 {d : Nat} {l0 l1 : Option PV} {st : List PV} {M : Mem} {Q : Option PV → Mem → Prop} {r : Nat} (hk : mK M r = 3) : WP d 20 14 [l0, l1] (vr r :: st) M Q = WP d 20 17 [l0, l1] (vi (mI M r 5) :: st) M Q := w_get mC_20 d20_14 fE_3_78 rfl (by rw [hk]; rfl)
theorem d20_17 : decode cX3_push 17 = .ok (.iload_n 1, 1) := by decide +kernel
theorem k20_17 {d : Nat} {x : Int32} {l0 : Option PV} {st : List PV} {M : Mem} {Q : Option PV → Mem → Prop} : WP d 20 17 [l0, some (vi x)] (st) M Q = WP d 20 18 [l0, some (vi x)] (vi x :: st) M Q := w1 mC_20 d20_17 rfl rfl
theorem d20_18 : decode cX3_push 18 = .ok (.iastore, 1) := by decide +kernel
theorem k20_18 {d : Nat} {l0 l1 : Option PV} {st : List PV} {M : Mem} {Q : Option PV → Mem → Prop} {r : Nat} {j x : Int32} (hk : mK M r = 13) (hj : inb j (mN M r)) (h1 : r ≠ 1) : WP d 20 18 [l0, l1] (vi x :: vi j :: vr r :: st) M Q = WP d 20 19 [l0, l1] (st) (sI M r (ix j) x) Q := w_iast mC_20 d20_18 hk hj h1
theorem d20_19 : decode cX3_push 19 = .ok (.aload_n 0, 1) := by decide +kernel
theorem k20_19 {d x : Nat} {l1 : Option PV} {st : List PV} {M : Mem} {Q : Option PV → Mem → Prop} : WP d 20 19 [some (vr x), l1] (st) M Q = WP d 20 20 [some (vr x), l1] (vr x :: st) M Q := w1 mC_20 d20_19 rfl rfl
theorem d20_20 : decode cX3_push 20 = .ok (.dup, 1) := by decide +kernel
theorem k20_20 {d : Nat} {l0 l1 : Option PV} {st : List PV} {M : Mem} {Q : Option PV → Mem → Prop} {x : Nat} : WP d 20 20 [l0, l1] (vr x :: st) M Q = WP d 20 21 [l0, l1] (vr x :: vr x :: st) M Q := w1 mC_20 d20_20 rfl rfl
theorem k20_20i {d : Nat} {l0 l1 : Option PV} {st : List PV} {M : Mem} {Q : Option PV → Mem → Prop} {x : Int32} : WP d 20 20 [l0, l1] (vi x :: st) M Q = WP d 20 21 [l0, l1] (vi x :: vi x :: st) M Q := w1 mC_20 d20_20 rfl rfl
theorem d20_21 : decode cX3_push 21 = .ok (.getfield 78, 3) := by decide +kernel
theorem k20_21 {d : Nat} {l0 l1 : Option PV} {st : List PV} {M : Mem} {Q : Option PV → Mem → Prop} {r : Nat} (hk : mK M r = 3) : WP d 20 21 [l0, l1] (vr r :: st) M Q = WP d 20 24 [l0, l1] (vi (mI M r 5) :: st) M Q := w_get mC_20 d20_21 fE_3_78 rfl (by rw [hk]; rfl)
theorem d20_24 : decode cX3_push 24 = .ok (.iconst 1, 1) := by decide +kernel
theorem k20_24 {d : Nat} {l0 l1 : Option PV} {st : List PV} {M : Mem} {Q : Option PV → Mem → Prop} : WP d 20 24 [l0, l1] (st) M Q = WP d 20 25 [l0, l1] (vi 1 :: st) M Q := w_iconst mC_20 d20_24 (by decide)
theorem d20_25 : decode cX3_push 25 = .ok (.iadd, 1) := by decide +kernel
theorem k20_25 {d : Nat} {l0 l1 : Option PV} {st : List PV} {M : Mem} {Q : Option PV → Mem → Prop} {x y : Int32} : WP d 20 25 [l0, l1] (vi y :: vi x :: st) M Q = WP d 20 26 [l0, l1] (vi (x + y) :: st) M Q := w1 mC_20 d20_25 rfl rfl
theorem d20_26 : decode cX3_push 26 = .ok (.putfield 78, 3) := by decide +kernel
theorem k20_26 {d : Nat} {l0 l1 : Option PV} {st : List PV} {M : Mem} {Q : Option PV → Mem → Prop} {r : Nat} {x : Int32} (hk : mK M r = 3) : WP d 20 26 [l0, l1] (vi x :: vr r :: st) M Q = WP d 20 29 [l0, l1] (st) (sI M r 5 x) Q := w_put mC_20 d20_26 fE_3_78 (by decide +kernel) (by rw [hk]; rfl)
theorem d20_29 : decode cX3_push 29 = .ok (.return_, 1) := by decide +kernel
theorem k20_29 {d : Nat} {l0 l1 : Option PV} {M : Mem} {Q : Option PV → Mem → Prop} : WP d 20 29 [l0, l1] ([]) M Q = Q none M := w_vret mC_20 d20_29 rfl
theorem d21_0 : decode cX3_pop 0 = .ok (.aload_n 0, 1) := by decide +kernel
theorem k21_0 {d x : Nat} {st : List PV} {M : Mem} {Q : Option PV → Mem → Prop} : WP d 21 0 [some (vr x)] (st) M Q = WP d 21 1 [some (vr x)] (vr x :: st) M Q := w1 mC_21 d21_0 rfl rfl
theorem d21_1 : decode cX3_pop 1 = .ok (.getfield 78, 3) := by decide +kernel
theorem k21_1 {d : Nat} {l0 : Option PV} {st : List PV} {M : Mem} {Q : Option PV → Mem → Prop} {r : Nat} (hk : mK M r = 3) : WP d 21 1 [l0] (vr r :: st) M Q = WP d 21 4 [l0] (vi (mI M r 5) :: st) M Q := w_get mC_21 d21_1 fE_3_78 rfl (by rw [hk]; rfl)
theorem d21_4 : decode cX3_pop 4 = .ok (.ifCond .gt 5, 3) := by decide +kernel
theorem k21_4 {d : Nat} {l0 : Option PV} {st : List PV} {M : Mem} {Q : Option PV → Mem → Prop} {x : Int32} : WP d 21 4 [l0] (vi x :: st) M Q = (if 0 < x then WP d 21 9 [l0] (st) M Q else WP d 21 7 [l0] (st) M Q) := w_if_gt mC_21 d21_4 (by decide)
theorem d21_7 : decode cX3_pop 7 = .ok (.iconst 0, 1) := by decide +kernel
theorem k21_7 {d : Nat} {l0 : Option PV} {st : List PV} {M : Mem} {Q : Option PV → Mem → Prop} : WP d 21 7 [l0] (st) M Q = WP d 21 8 [l0] (vi 0 :: st) M Q := w_iconst mC_21 d21_7 (by decide)
theorem d21_8 : decode cX3_pop 8 = .ok (.ireturn, 1) := by decide +kernel
theorem k21_8 {d : Nat} {l0 : Option PV} {M : Mem} {Q : Option PV → Mem → Prop} {x : Int32} : WP d 21 8 [l0] ([vi x]) M Q = Q (some (vi x)) M := w_iret mC_21 d21_8 rfl
theorem d21_9 : decode cX3_pop 9 = .ok (.aload_n 0, 1) := by decide +kernel
theorem k21_9 {d x : Nat} {st : List PV} {M : Mem} {Q : Option PV → Mem → Prop} : WP d 21 9 [some (vr x)] (st) M Q = WP d 21 10 [some (vr x)] (vr x :: st) M Q := w1 mC_21 d21_9 rfl rfl
theorem d21_10 : decode cX3_pop 10 = .ok (.dup, 1) := by decide +kernel
theorem k21_10 {d : Nat} {l0 : Option PV} {st : List PV} {M : Mem} {Q : Option PV → Mem → Prop} {x : Nat} : WP d 21 10 [l0] (vr x :: st) M Q = WP d 21 11 [l0] (vr x :: vr x :: st) M Q := w1 mC_21 d21_10 rfl rfl
theorem k21_10i {d : Nat} {l0 : Option PV} {st : List PV} {M : Mem} {Q : Option PV → Mem → Prop} {x : Int32} : WP d 21 10 [l0] (vi x :: st) M Q = WP d 21 11 [l0] (vi x :: vi x :: st) M Q := w1 mC_21 d21_10 rfl rfl
theorem d21_11 : decode cX3_pop 11 = .ok (.getfield 78, 3) := by decide +kernel
theorem k21_11 {d : Nat} {l0 : Option PV} {st : List PV} {M : Mem} {Q : Option PV → Mem → Prop} {r : Nat} (hk : mK M r = 3) : WP d 21 11 [l0] (vr r :: st) M Q = WP d 21 14 [l0] (vi (mI M r 5) :: st) M Q := w_get mC_21 d21_11 fE_3_78 rfl (by rw [hk]; rfl)
theorem d21_14 : decode cX3_pop 14 = .ok (.iconst 1, 1) := by decide +kernel
theorem k21_14 {d : Nat} {l0 : Option PV} {st : List PV} {M : Mem} {Q : Option PV → Mem → Prop} : WP d 21 14 [l0] (st) M Q = WP d 21 15 [l0] (vi 1 :: st) M Q := w_iconst mC_21 d21_14 (by decide)
theorem d21_15 : decode cX3_pop 15 = .ok (.isub, 1) := by decide +kernel
theorem k21_15 {d : Nat} {l0 : Option PV} {st : List PV} {M : Mem} {Q : Option PV → Mem → Prop} {x y : Int32} : WP d 21 15 [l0] (vi y :: vi x :: st) M Q = WP d 21 16 [l0] (vi (x - y) :: st) M Q := w1 mC_21 d21_15 rfl rfl
theorem d21_16 : decode cX3_pop 16 = .ok (.putfield 78, 3) := by decide +kernel
theorem k21_16 {d : Nat} {l0 : Option PV} {st : List PV} {M : Mem} {Q : Option PV → Mem → Prop} {r : Nat} {x : Int32} (hk : mK M r = 3) : WP d 21 16 [l0] (vi x :: vr r :: st) M Q = WP d 21 19 [l0] (st) (sI M r 5 x) Q := w_put mC_21 d21_16 fE_3_78 (by decide +kernel) (by rw [hk]; rfl)
theorem d21_19 : decode cX3_pop 19 = .ok (.aload_n 0, 1) := by decide +kernel
theorem k21_19 {d x : Nat} {st : List PV} {M : Mem} {Q : Option PV → Mem → Prop} : WP d 21 19 [some (vr x)] (st) M Q = WP d 21 20 [some (vr x)] (vr x :: st) M Q := w1 mC_21 d21_19 rfl rfl
theorem d21_20 : decode cX3_pop 20 = .ok (.getfield 18, 3) := by decide +kernel
theorem k21_20 {d : Nat} {l0 : Option PV} {st : List PV} {M : Mem} {Q : Option PV → Mem → Prop} {r : Nat} (hk : mK M r = 3) : WP d 21 20 [l0] (vr r :: st) M Q = WP d 21 23 [l0] (vr (mR M r 2) :: st) M Q := w_getr mC_21 d21_20 fE_3_18 rfl (by rw [hk]; rfl)
theorem d21_23 : decode cX3_pop 23 = .ok (.aload_n 0, 1) := by decide +kernel
theorem k21_23 {d x : Nat} {st : List PV} {M : Mem} {Q : Option PV → Mem → Prop} : WP d 21 23 [some (vr x)] (st) M Q = WP d 21 24 [some (vr x)] (vr x :: st) M Q := w1 mC_21 d21_23 rfl rfl
theorem d21_24 : decode cX3_pop 24 = .ok (.getfield 78, 3) := by decide +kernel
theorem k21_24 {d : Nat} {l0 : Option PV} {st : List PV} {M : Mem} {Q : Option PV → Mem → Prop} {r : Nat} (hk : mK M r = 3) : WP d 21 24 [l0] (vr r :: st) M Q = WP d 21 27 [l0] (vi (mI M r 5) :: st) M Q := w_get mC_21 d21_24 fE_3_78 rfl (by rw [hk]; rfl)
theorem d21_27 : decode cX3_pop 27 = .ok (.iaload, 1) := by decide +kernel
theorem k21_27 {d : Nat} {l0 : Option PV} {st : List PV} {M : Mem} {Q : Option PV → Mem → Prop} {r : Nat} {j : Int32} (hk : mK M r = 13) (hj : inb j (mN M r)) (_h1 : r ≠ 1) : WP d 21 27 [l0] (vi j :: vr r :: st) M Q = WP d 21 28 [l0] (vi (mI M r (ix j)) :: st) M Q := w_iald mC_21 d21_27 hk hj
theorem d21_28 : decode cX3_pop 28 = .ok (.ireturn, 1) := by decide +kernel
theorem k21_28 {d : Nat} {l0 : Option PV} {M : Mem} {Q : Option PV → Mem → Prop} {x : Int32} : WP d 21 28 [l0] ([vi x]) M Q = Q (some (vi x)) M := w_iret mC_21 d21_28 rfl
theorem d22_0 : decode cX3_joinedBy 0 = .ok (.iload_n 0, 1) := by decide +kernel
theorem k22_0 {d : Nat} {x : Int32} {l1 l2 : Option PV} {st : List PV} {M : Mem} {Q : Option PV → Mem → Prop} : WP d 22 0 [some (vi x), l1, l2] (st) M Q = WP d 22 1 [some (vi x), l1, l2] (vi x :: st) M Q := w1 mC_22 d22_0 rfl rfl
theorem d22_1 : decode cX3_joinedBy 1 = .ok (.lookupswitch 168 #[(38, 97), (42, 152), (43, 144), (45, 148), (47, 156), (60, 111), (61, 122), (62, 133), (124, 83)], 83) := by decide +kernel
theorem k22_1c38 {d : Nat} {l0 l1 l2 : Option PV} {st : List PV} {M : Mem} {Q : Option PV → Mem → Prop} : WP d 22 1 [l0, l1, l2] (vi 38 :: st) M Q = WP d 22 98 [l0, l1, l2] (st) M Q := w_lsw mC_22 d22_1 (by decide +kernel)
theorem k22_1c42 {d : Nat} {l0 l1 l2 : Option PV} {st : List PV} {M : Mem} {Q : Option PV → Mem → Prop} : WP d 22 1 [l0, l1, l2] (vi 42 :: st) M Q = WP d 22 153 [l0, l1, l2] (st) M Q := w_lsw mC_22 d22_1 (by decide +kernel)
theorem k22_1c43 {d : Nat} {l0 l1 l2 : Option PV} {st : List PV} {M : Mem} {Q : Option PV → Mem → Prop} : WP d 22 1 [l0, l1, l2] (vi 43 :: st) M Q = WP d 22 145 [l0, l1, l2] (st) M Q := w_lsw mC_22 d22_1 (by decide +kernel)
theorem k22_1c45 {d : Nat} {l0 l1 l2 : Option PV} {st : List PV} {M : Mem} {Q : Option PV → Mem → Prop} : WP d 22 1 [l0, l1, l2] (vi 45 :: st) M Q = WP d 22 149 [l0, l1, l2] (st) M Q := w_lsw mC_22 d22_1 (by decide +kernel)
theorem k22_1c47 {d : Nat} {l0 l1 l2 : Option PV} {st : List PV} {M : Mem} {Q : Option PV → Mem → Prop} : WP d 22 1 [l0, l1, l2] (vi 47 :: st) M Q = WP d 22 157 [l0, l1, l2] (st) M Q := w_lsw mC_22 d22_1 (by decide +kernel)
theorem k22_1c60 {d : Nat} {l0 l1 l2 : Option PV} {st : List PV} {M : Mem} {Q : Option PV → Mem → Prop} : WP d 22 1 [l0, l1, l2] (vi 60 :: st) M Q = WP d 22 112 [l0, l1, l2] (st) M Q := w_lsw mC_22 d22_1 (by decide +kernel)
theorem k22_1c61 {d : Nat} {l0 l1 l2 : Option PV} {st : List PV} {M : Mem} {Q : Option PV → Mem → Prop} : WP d 22 1 [l0, l1, l2] (vi 61 :: st) M Q = WP d 22 123 [l0, l1, l2] (st) M Q := w_lsw mC_22 d22_1 (by decide +kernel)
theorem k22_1c62 {d : Nat} {l0 l1 l2 : Option PV} {st : List PV} {M : Mem} {Q : Option PV → Mem → Prop} : WP d 22 1 [l0, l1, l2] (vi 62 :: st) M Q = WP d 22 134 [l0, l1, l2] (st) M Q := w_lsw mC_22 d22_1 (by decide +kernel)
theorem k22_1c124 {d : Nat} {l0 l1 l2 : Option PV} {st : List PV} {M : Mem} {Q : Option PV → Mem → Prop} : WP d 22 1 [l0, l1, l2] (vi 124 :: st) M Q = WP d 22 84 [l0, l1, l2] (st) M Q := w_lsw mC_22 d22_1 (by decide +kernel)
theorem k22_1 {d : Nat} {l0 l1 l2 : Option PV} {st : List PV} {M : Mem} {Q : Option PV → Mem → Prop} {x : Int32} (h0 : x ≠ 38) (h1 : x ≠ 42) (h2 : x ≠ 43) (h3 : x ≠ 45) (h4 : x ≠ 47) (h5 : x ≠ 60) (h6 : x ≠ 61) (h7 : x ≠ 62) (h8 : x ≠ 124) : WP d 22 1 [l0, l1, l2] (vi x :: st) M Q = WP d 22 169 [l0, l1, l2] (st) M Q := w_lsw mC_22 d22_1 (by unfold lswt; rw [if_pos (by decide)]; rw [lv_osw h0 (by decide)]; rw [lv_osw h1 (by decide)]; rw [lv_osw h2 (by decide)]; rw [lv_osw h3 (by decide)]; rw [lv_osw h4 (by decide)]; rw [lv_osw h5 (by decide)]; rw [lv_osw h6 (by decide)]; rw [lv_osw h7 (by decide)]; rw [lv_osw h8 (by decide)]; exact (by decide : tgt 1 168 = some 169))
theorem d22_84 : decode cX3_joinedBy 84 = .ok (.iload_n 1, 1) := by decide +kernel
theorem k22_84 {d : Nat} {x : Int32} {l0 l2 : Option PV} {st : List PV} {M : Mem} {Q : Option PV → Mem → Prop} : WP d 22 84 [l0, some (vi x), l2] (st) M Q = WP d 22 85 [l0, some (vi x), l2] (vi x :: st) M Q := w1 mC_22 d22_84 rfl rfl
theorem d22_85 : decode cX3_joinedBy 85 = .ok (.ifCond .ne 7, 3) := by decide +kernel
theorem k22_85 {d : Nat} {l0 l1 l2 : Option PV} {st : List PV} {M : Mem} {Q : Option PV → Mem → Prop} {x : Int32} : WP d 22 85 [l0, l1, l2] (vi x :: st) M Q = (if x = 0 then WP d 22 88 [l0, l1, l2] (st) M Q else WP d 22 92 [l0, l1, l2] (st) M Q) := w_if_ne mC_22 d22_85 (by decide)
theorem d22_88 : decode cX3_joinedBy 88 = .ok (.iload_n 2, 1) := by decide +kernel
theorem k22_88 {d : Nat} {x : Int32} {l0 l1 : Option PV} {st : List PV} {M : Mem} {Q : Option PV → Mem → Prop} : WP d 22 88 [l0, l1, some (vi x)] (st) M Q = WP d 22 89 [l0, l1, some (vi x)] (vi x :: st) M Q := w1 mC_22 d22_88 rfl rfl
theorem d22_89 : decode cX3_joinedBy 89 = .ok (.ifCond .eq 7, 3) := by decide +kernel
theorem k22_89 {d : Nat} {l0 l1 l2 : Option PV} {st : List PV} {M : Mem} {Q : Option PV → Mem → Prop} {x : Int32} : WP d 22 89 [l0, l1, l2] (vi x :: st) M Q = (if x = 0 then WP d 22 96 [l0, l1, l2] (st) M Q else WP d 22 92 [l0, l1, l2] (st) M Q) := w_if_eq mC_22 d22_89 (by decide)
theorem d22_92 : decode cX3_joinedBy 92 = .ok (.iconst 1, 1) := by decide +kernel
theorem k22_92 {d : Nat} {l0 l1 l2 : Option PV} {st : List PV} {M : Mem} {Q : Option PV → Mem → Prop} : WP d 22 92 [l0, l1, l2] (st) M Q = WP d 22 93 [l0, l1, l2] (vi 1 :: st) M Q := w_iconst mC_22 d22_92 (by decide)
theorem d22_93 : decode cX3_joinedBy 93 = .ok (.goto 4, 3) := by decide +kernel
theorem k22_93 {d : Nat} {l0 l1 l2 : Option PV} {st : List PV} {M : Mem} {Q : Option PV → Mem → Prop} : WP d 22 93 [l0, l1, l2] (st) M Q = WP d 22 97 [l0, l1, l2] (st) M Q := w_goto mC_22 d22_93 (by decide)
theorem d22_96 : decode cX3_joinedBy 96 = .ok (.iconst 0, 1) := by decide +kernel
theorem k22_96 {d : Nat} {l0 l1 l2 : Option PV} {st : List PV} {M : Mem} {Q : Option PV → Mem → Prop} : WP d 22 96 [l0, l1, l2] (st) M Q = WP d 22 97 [l0, l1, l2] (vi 0 :: st) M Q := w_iconst mC_22 d22_96 (by decide)
theorem d22_97 : decode cX3_joinedBy 97 = .ok (.ireturn, 1) := by decide +kernel
theorem k22_97 {d : Nat} {l0 l1 l2 : Option PV} {M : Mem} {Q : Option PV → Mem → Prop} {x : Int32} : WP d 22 97 [l0, l1, l2] ([vi x]) M Q = Q (some (vi x)) M := w_iret mC_22 d22_97 rfl
theorem d22_98 : decode cX3_joinedBy 98 = .ok (.iload_n 1, 1) := by decide +kernel
theorem k22_98 {d : Nat} {x : Int32} {l0 l2 : Option PV} {st : List PV} {M : Mem} {Q : Option PV → Mem → Prop} : WP d 22 98 [l0, some (vi x), l2] (st) M Q = WP d 22 99 [l0, some (vi x), l2] (vi x :: st) M Q := w1 mC_22 d22_98 rfl rfl
theorem d22_99 : decode cX3_joinedBy 99 = .ok (.ifCond .eq 11, 3) := by decide +kernel
theorem k22_99 {d : Nat} {l0 l1 l2 : Option PV} {st : List PV} {M : Mem} {Q : Option PV → Mem → Prop} {x : Int32} : WP d 22 99 [l0, l1, l2] (vi x :: st) M Q = (if x = 0 then WP d 22 110 [l0, l1, l2] (st) M Q else WP d 22 102 [l0, l1, l2] (st) M Q) := w_if_eq mC_22 d22_99 (by decide)
theorem d22_102 : decode cX3_joinedBy 102 = .ok (.iload_n 2, 1) := by decide +kernel
theorem k22_102 {d : Nat} {x : Int32} {l0 l1 : Option PV} {st : List PV} {M : Mem} {Q : Option PV → Mem → Prop} : WP d 22 102 [l0, l1, some (vi x)] (st) M Q = WP d 22 103 [l0, l1, some (vi x)] (vi x :: st) M Q := w1 mC_22 d22_102 rfl rfl
theorem d22_103 : decode cX3_joinedBy 103 = .ok (.ifCond .eq 7, 3) := by decide +kernel
theorem k22_103 {d : Nat} {l0 l1 l2 : Option PV} {st : List PV} {M : Mem} {Q : Option PV → Mem → Prop} {x : Int32} : WP d 22 103 [l0, l1, l2] (vi x :: st) M Q = (if x = 0 then WP d 22 110 [l0, l1, l2] (st) M Q else WP d 22 106 [l0, l1, l2] (st) M Q) := w_if_eq mC_22 d22_103 (by decide)
theorem d22_106 : decode cX3_joinedBy 106 = .ok (.iconst 1, 1) := by decide +kernel
theorem k22_106 {d : Nat} {l0 l1 l2 : Option PV} {st : List PV} {M : Mem} {Q : Option PV → Mem → Prop} : WP d 22 106 [l0, l1, l2] (st) M Q = WP d 22 107 [l0, l1, l2] (vi 1 :: st) M Q := w_iconst mC_22 d22_106 (by decide)
theorem d22_107 : decode cX3_joinedBy 107 = .ok (.goto 4, 3) := by decide +kernel
theorem k22_107 {d : Nat} {l0 l1 l2 : Option PV} {st : List PV} {M : Mem} {Q : Option PV → Mem → Prop} : WP d 22 107 [l0, l1, l2] (st) M Q = WP d 22 111 [l0, l1, l2] (st) M Q := w_goto mC_22 d22_107 (by decide)
theorem d22_110 : decode cX3_joinedBy 110 = .ok (.iconst 0, 1) := by decide +kernel
theorem k22_110 {d : Nat} {l0 l1 l2 : Option PV} {st : List PV} {M : Mem} {Q : Option PV → Mem → Prop} : WP d 22 110 [l0, l1, l2] (st) M Q = WP d 22 111 [l0, l1, l2] (vi 0 :: st) M Q := w_iconst mC_22 d22_110 (by decide)
theorem d22_111 : decode cX3_joinedBy 111 = .ok (.ireturn, 1) := by decide +kernel
theorem k22_111 {d : Nat} {l0 l1 l2 : Option PV} {M : Mem} {Q : Option PV → Mem → Prop} {x : Int32} : WP d 22 111 [l0, l1, l2] ([vi x]) M Q = Q (some (vi x)) M := w_iret mC_22 d22_111 rfl
theorem d22_112 : decode cX3_joinedBy 112 = .ok (.iload_n 1, 1) := by decide +kernel
theorem k22_112 {d : Nat} {x : Int32} {l0 l2 : Option PV} {st : List PV} {M : Mem} {Q : Option PV → Mem → Prop} : WP d 22 112 [l0, some (vi x), l2] (st) M Q = WP d 22 113 [l0, some (vi x), l2] (vi x :: st) M Q := w1 mC_22 d22_112 rfl rfl
theorem d22_113 : decode cX3_joinedBy 113 = .ok (.iload_n 2, 1) := by decide +kernel
theorem k22_113 {d : Nat} {x : Int32} {l0 l1 : Option PV} {st : List PV} {M : Mem} {Q : Option PV → Mem → Prop} : WP d 22 113 [l0, l1, some (vi x)] (st) M Q = WP d 22 114 [l0, l1, some (vi x)] (vi x :: st) M Q := w1 mC_22 d22_113 rfl rfl
theorem d22_114 : decode cX3_joinedBy 114 = .ok (.if_icmp .ge 7, 3) := by decide +kernel
theorem k22_114 {d : Nat} {l0 l1 l2 : Option PV} {st : List PV} {M : Mem} {Q : Option PV → Mem → Prop} {x y : Int32} : WP d 22 114 [l0, l1, l2] (vi y :: vi x :: st) M Q = (if y ≤ x then WP d 22 121 [l0, l1, l2] (st) M Q else WP d 22 117 [l0, l1, l2] (st) M Q) := w_ic_ge mC_22 d22_114 (by decide)
theorem d22_117 : decode cX3_joinedBy 117 = .ok (.iconst 1, 1) := by decide +kernel
theorem k22_117 {d : Nat} {l0 l1 l2 : Option PV} {st : List PV} {M : Mem} {Q : Option PV → Mem → Prop} : WP d 22 117 [l0, l1, l2] (st) M Q = WP d 22 118 [l0, l1, l2] (vi 1 :: st) M Q := w_iconst mC_22 d22_117 (by decide)
theorem d22_118 : decode cX3_joinedBy 118 = .ok (.goto 4, 3) := by decide +kernel
theorem k22_118 {d : Nat} {l0 l1 l2 : Option PV} {st : List PV} {M : Mem} {Q : Option PV → Mem → Prop} : WP d 22 118 [l0, l1, l2] (st) M Q = WP d 22 122 [l0, l1, l2] (st) M Q := w_goto mC_22 d22_118 (by decide)
theorem d22_121 : decode cX3_joinedBy 121 = .ok (.iconst 0, 1) := by decide +kernel
theorem k22_121 {d : Nat} {l0 l1 l2 : Option PV} {st : List PV} {M : Mem} {Q : Option PV → Mem → Prop} : WP d 22 121 [l0, l1, l2] (st) M Q = WP d 22 122 [l0, l1, l2] (vi 0 :: st) M Q := w_iconst mC_22 d22_121 (by decide)
theorem d22_122 : decode cX3_joinedBy 122 = .ok (.ireturn, 1) := by decide +kernel
theorem k22_122 {d : Nat} {l0 l1 l2 : Option PV} {M : Mem} {Q : Option PV → Mem → Prop} {x : Int32} : WP d 22 122 [l0, l1, l2] ([vi x]) M Q = Q (some (vi x)) M := w_iret mC_22 d22_122 rfl
theorem d22_123 : decode cX3_joinedBy 123 = .ok (.iload_n 1, 1) := by decide +kernel
theorem k22_123 {d : Nat} {x : Int32} {l0 l2 : Option PV} {st : List PV} {M : Mem} {Q : Option PV → Mem → Prop} : WP d 22 123 [l0, some (vi x), l2] (st) M Q = WP d 22 124 [l0, some (vi x), l2] (vi x :: st) M Q := w1 mC_22 d22_123 rfl rfl
theorem d22_124 : decode cX3_joinedBy 124 = .ok (.iload_n 2, 1) := by decide +kernel
theorem k22_124 {d : Nat} {x : Int32} {l0 l1 : Option PV} {st : List PV} {M : Mem} {Q : Option PV → Mem → Prop} : WP d 22 124 [l0, l1, some (vi x)] (st) M Q = WP d 22 125 [l0, l1, some (vi x)] (vi x :: st) M Q := w1 mC_22 d22_124 rfl rfl
theorem d22_125 : decode cX3_joinedBy 125 = .ok (.if_icmp .ne 7, 3) := by decide +kernel
theorem k22_125 {d : Nat} {l0 l1 l2 : Option PV} {st : List PV} {M : Mem} {Q : Option PV → Mem → Prop} {x y : Int32} : WP d 22 125 [l0, l1, l2] (vi y :: vi x :: st) M Q = (if x = y then WP d 22 128 [l0, l1, l2] (st) M Q else WP d 22 132 [l0, l1, l2] (st) M Q) := w_ic_ne mC_22 d22_125 (by decide)
theorem d22_128 : decode cX3_joinedBy 128 = .ok (.iconst 1, 1) := by decide +kernel
theorem k22_128 {d : Nat} {l0 l1 l2 : Option PV} {st : List PV} {M : Mem} {Q : Option PV → Mem → Prop} : WP d 22 128 [l0, l1, l2] (st) M Q = WP d 22 129 [l0, l1, l2] (vi 1 :: st) M Q := w_iconst mC_22 d22_128 (by decide)
theorem d22_129 : decode cX3_joinedBy 129 = .ok (.goto 4, 3) := by decide +kernel
theorem k22_129 {d : Nat} {l0 l1 l2 : Option PV} {st : List PV} {M : Mem} {Q : Option PV → Mem → Prop} : WP d 22 129 [l0, l1, l2] (st) M Q = WP d 22 133 [l0, l1, l2] (st) M Q := w_goto mC_22 d22_129 (by decide)
theorem d22_132 : decode cX3_joinedBy 132 = .ok (.iconst 0, 1) := by decide +kernel
theorem k22_132 {d : Nat} {l0 l1 l2 : Option PV} {st : List PV} {M : Mem} {Q : Option PV → Mem → Prop} : WP d 22 132 [l0, l1, l2] (st) M Q = WP d 22 133 [l0, l1, l2] (vi 0 :: st) M Q := w_iconst mC_22 d22_132 (by decide)
theorem d22_133 : decode cX3_joinedBy 133 = .ok (.ireturn, 1) := by decide +kernel
theorem k22_133 {d : Nat} {l0 l1 l2 : Option PV} {M : Mem} {Q : Option PV → Mem → Prop} {x : Int32} : WP d 22 133 [l0, l1, l2] ([vi x]) M Q = Q (some (vi x)) M := w_iret mC_22 d22_133 rfl
theorem d22_134 : decode cX3_joinedBy 134 = .ok (.iload_n 1, 1) := by decide +kernel
theorem k22_134 {d : Nat} {x : Int32} {l0 l2 : Option PV} {st : List PV} {M : Mem} {Q : Option PV → Mem → Prop} : WP d 22 134 [l0, some (vi x), l2] (st) M Q = WP d 22 135 [l0, some (vi x), l2] (vi x :: st) M Q := w1 mC_22 d22_134 rfl rfl
theorem d22_135 : decode cX3_joinedBy 135 = .ok (.iload_n 2, 1) := by decide +kernel
theorem k22_135 {d : Nat} {x : Int32} {l0 l1 : Option PV} {st : List PV} {M : Mem} {Q : Option PV → Mem → Prop} : WP d 22 135 [l0, l1, some (vi x)] (st) M Q = WP d 22 136 [l0, l1, some (vi x)] (vi x :: st) M Q := w1 mC_22 d22_135 rfl rfl
theorem d22_136 : decode cX3_joinedBy 136 = .ok (.if_icmp .le 7, 3) := by decide +kernel
theorem k22_136 {d : Nat} {l0 l1 l2 : Option PV} {st : List PV} {M : Mem} {Q : Option PV → Mem → Prop} {x y : Int32} : WP d 22 136 [l0, l1, l2] (vi y :: vi x :: st) M Q = (if x ≤ y then WP d 22 143 [l0, l1, l2] (st) M Q else WP d 22 139 [l0, l1, l2] (st) M Q) := w_ic_le mC_22 d22_136 (by decide)
theorem d22_139 : decode cX3_joinedBy 139 = .ok (.iconst 1, 1) := by decide +kernel
theorem k22_139 {d : Nat} {l0 l1 l2 : Option PV} {st : List PV} {M : Mem} {Q : Option PV → Mem → Prop} : WP d 22 139 [l0, l1, l2] (st) M Q = WP d 22 140 [l0, l1, l2] (vi 1 :: st) M Q := w_iconst mC_22 d22_139 (by decide)
theorem d22_140 : decode cX3_joinedBy 140 = .ok (.goto 4, 3) := by decide +kernel
theorem k22_140 {d : Nat} {l0 l1 l2 : Option PV} {st : List PV} {M : Mem} {Q : Option PV → Mem → Prop} : WP d 22 140 [l0, l1, l2] (st) M Q = WP d 22 144 [l0, l1, l2] (st) M Q := w_goto mC_22 d22_140 (by decide)
theorem d22_143 : decode cX3_joinedBy 143 = .ok (.iconst 0, 1) := by decide +kernel
theorem k22_143 {d : Nat} {l0 l1 l2 : Option PV} {st : List PV} {M : Mem} {Q : Option PV → Mem → Prop} : WP d 22 143 [l0, l1, l2] (st) M Q = WP d 22 144 [l0, l1, l2] (vi 0 :: st) M Q := w_iconst mC_22 d22_143 (by decide)
theorem d22_144 : decode cX3_joinedBy 144 = .ok (.ireturn, 1) := by decide +kernel
theorem k22_144 {d : Nat} {l0 l1 l2 : Option PV} {M : Mem} {Q : Option PV → Mem → Prop} {x : Int32} : WP d 22 144 [l0, l1, l2] ([vi x]) M Q = Q (some (vi x)) M := w_iret mC_22 d22_144 rfl
theorem d22_145 : decode cX3_joinedBy 145 = .ok (.iload_n 1, 1) := by decide +kernel
theorem k22_145 {d : Nat} {x : Int32} {l0 l2 : Option PV} {st : List PV} {M : Mem} {Q : Option PV → Mem → Prop} : WP d 22 145 [l0, some (vi x), l2] (st) M Q = WP d 22 146 [l0, some (vi x), l2] (vi x :: st) M Q := w1 mC_22 d22_145 rfl rfl
theorem d22_146 : decode cX3_joinedBy 146 = .ok (.iload_n 2, 1) := by decide +kernel
theorem k22_146 {d : Nat} {x : Int32} {l0 l1 : Option PV} {st : List PV} {M : Mem} {Q : Option PV → Mem → Prop} : WP d 22 146 [l0, l1, some (vi x)] (st) M Q = WP d 22 147 [l0, l1, some (vi x)] (vi x :: st) M Q := w1 mC_22 d22_146 rfl rfl
theorem d22_147 : decode cX3_joinedBy 147 = .ok (.iadd, 1) := by decide +kernel
theorem k22_147 {d : Nat} {l0 l1 l2 : Option PV} {st : List PV} {M : Mem} {Q : Option PV → Mem → Prop} {x y : Int32} : WP d 22 147 [l0, l1, l2] (vi y :: vi x :: st) M Q = WP d 22 148 [l0, l1, l2] (vi (x + y) :: st) M Q := w1 mC_22 d22_147 rfl rfl
theorem d22_148 : decode cX3_joinedBy 148 = .ok (.ireturn, 1) := by decide +kernel
theorem k22_148 {d : Nat} {l0 l1 l2 : Option PV} {M : Mem} {Q : Option PV → Mem → Prop} {x : Int32} : WP d 22 148 [l0, l1, l2] ([vi x]) M Q = Q (some (vi x)) M := w_iret mC_22 d22_148 rfl
theorem d22_149 : decode cX3_joinedBy 149 = .ok (.iload_n 1, 1) := by decide +kernel
theorem k22_149 {d : Nat} {x : Int32} {l0 l2 : Option PV} {st : List PV} {M : Mem} {Q : Option PV → Mem → Prop} : WP d 22 149 [l0, some (vi x), l2] (st) M Q = WP d 22 150 [l0, some (vi x), l2] (vi x :: st) M Q := w1 mC_22 d22_149 rfl rfl
theorem d22_150 : decode cX3_joinedBy 150 = .ok (.iload_n 2, 1) := by decide +kernel
theorem k22_150 {d : Nat} {x : Int32} {l0 l1 : Option PV} {st : List PV} {M : Mem} {Q : Option PV → Mem → Prop} : WP d 22 150 [l0, l1, some (vi x)] (st) M Q = WP d 22 151 [l0, l1, some (vi x)] (vi x :: st) M Q := w1 mC_22 d22_150 rfl rfl
theorem d22_151 : decode cX3_joinedBy 151 = .ok (.isub, 1) := by decide +kernel
theorem k22_151 {d : Nat} {l0 l1 l2 : Option PV} {st : List PV} {M : Mem} {Q : Option PV → Mem → Prop} {x y : Int32} : WP d 22 151 [l0, l1, l2] (vi y :: vi x :: st) M Q = WP d 22 152 [l0, l1, l2] (vi (x - y) :: st) M Q := w1 mC_22 d22_151 rfl rfl
theorem d22_152 : decode cX3_joinedBy 152 = .ok (.ireturn, 1) := by decide +kernel
theorem k22_152 {d : Nat} {l0 l1 l2 : Option PV} {M : Mem} {Q : Option PV → Mem → Prop} {x : Int32} : WP d 22 152 [l0, l1, l2] ([vi x]) M Q = Q (some (vi x)) M := w_iret mC_22 d22_152 rfl
theorem d22_153 : decode cX3_joinedBy 153 = .ok (.iload_n 1, 1) := by decide +kernel
theorem k22_153 {d : Nat} {x : Int32} {l0 l2 : Option PV} {st : List PV} {M : Mem} {Q : Option PV → Mem → Prop} : WP d 22 153 [l0, some (vi x), l2] (st) M Q = WP d 22 154 [l0, some (vi x), l2] (vi x :: st) M Q := w1 mC_22 d22_153 rfl rfl
theorem d22_154 : decode cX3_joinedBy 154 = .ok (.iload_n 2, 1) := by decide +kernel
theorem k22_154 {d : Nat} {x : Int32} {l0 l1 : Option PV} {st : List PV} {M : Mem} {Q : Option PV → Mem → Prop} : WP d 22 154 [l0, l1, some (vi x)] (st) M Q = WP d 22 155 [l0, l1, some (vi x)] (vi x :: st) M Q := w1 mC_22 d22_154 rfl rfl
theorem d22_155 : decode cX3_joinedBy 155 = .ok (.imul, 1) := by decide +kernel
theorem k22_155 {d : Nat} {l0 l1 l2 : Option PV} {st : List PV} {M : Mem} {Q : Option PV → Mem → Prop} {x y : Int32} : WP d 22 155 [l0, l1, l2] (vi y :: vi x :: st) M Q = WP d 22 156 [l0, l1, l2] (vi (x * y) :: st) M Q := w1 mC_22 d22_155 rfl rfl
theorem d22_156 : decode cX3_joinedBy 156 = .ok (.ireturn, 1) := by decide +kernel
theorem k22_156 {d : Nat} {l0 l1 l2 : Option PV} {M : Mem} {Q : Option PV → Mem → Prop} {x : Int32} : WP d 22 156 [l0, l1, l2] ([vi x]) M Q = Q (some (vi x)) M := w_iret mC_22 d22_156 rfl
theorem d22_157 : decode cX3_joinedBy 157 = .ok (.iload_n 2, 1) := by decide +kernel
theorem k22_157 {d : Nat} {x : Int32} {l0 l1 : Option PV} {st : List PV} {M : Mem} {Q : Option PV → Mem → Prop} : WP d 22 157 [l0, l1, some (vi x)] (st) M Q = WP d 22 158 [l0, l1, some (vi x)] (vi x :: st) M Q := w1 mC_22 d22_157 rfl rfl
theorem d22_158 : decode cX3_joinedBy 158 = .ok (.ifCond .ne 7, 3) := by decide +kernel
theorem k22_158 {d : Nat} {l0 l1 l2 : Option PV} {st : List PV} {M : Mem} {Q : Option PV → Mem → Prop} {x : Int32} : WP d 22 158 [l0, l1, l2] (vi x :: st) M Q = (if x = 0 then WP d 22 161 [l0, l1, l2] (st) M Q else WP d 22 165 [l0, l1, l2] (st) M Q) := w_if_ne mC_22 d22_158 (by decide)
theorem d22_161 : decode cX3_joinedBy 161 = .ok (.iconst 0, 1) := by decide +kernel
theorem k22_161 {d : Nat} {l0 l1 l2 : Option PV} {st : List PV} {M : Mem} {Q : Option PV → Mem → Prop} : WP d 22 161 [l0, l1, l2] (st) M Q = WP d 22 162 [l0, l1, l2] (vi 0 :: st) M Q := w_iconst mC_22 d22_161 (by decide)
theorem d22_162 : decode cX3_joinedBy 162 = .ok (.goto 6, 3) := by decide +kernel
theorem k22_162 {d : Nat} {l0 l1 l2 : Option PV} {st : List PV} {M : Mem} {Q : Option PV → Mem → Prop} : WP d 22 162 [l0, l1, l2] (st) M Q = WP d 22 168 [l0, l1, l2] (st) M Q := w_goto mC_22 d22_162 (by decide)
theorem d22_165 : decode cX3_joinedBy 165 = .ok (.iload_n 1, 1) := by decide +kernel
theorem k22_165 {d : Nat} {x : Int32} {l0 l2 : Option PV} {st : List PV} {M : Mem} {Q : Option PV → Mem → Prop} : WP d 22 165 [l0, some (vi x), l2] (st) M Q = WP d 22 166 [l0, some (vi x), l2] (vi x :: st) M Q := w1 mC_22 d22_165 rfl rfl
theorem d22_166 : decode cX3_joinedBy 166 = .ok (.iload_n 2, 1) := by decide +kernel
theorem k22_166 {d : Nat} {x : Int32} {l0 l1 : Option PV} {st : List PV} {M : Mem} {Q : Option PV → Mem → Prop} : WP d 22 166 [l0, l1, some (vi x)] (st) M Q = WP d 22 167 [l0, l1, some (vi x)] (vi x :: st) M Q := w1 mC_22 d22_166 rfl rfl
theorem d22_167 : decode cX3_joinedBy 167 = .ok (.idiv, 1) := by decide +kernel
theorem k22_167 {d : Nat} {l0 l1 l2 : Option PV} {st : List PV} {M : Mem} {Q : Option PV → Mem → Prop} {x y : Int32} (h : y ≠ 0) : WP d 22 167 [l0, l1, l2] (vi y :: vi x :: st) M Q = WP d 22 168 [l0, l1, l2] (vi (x / y) :: st) M Q := w_div mC_22 d22_167 h
theorem d22_168 : decode cX3_joinedBy 168 = .ok (.ireturn, 1) := by decide +kernel
theorem k22_168 {d : Nat} {l0 l1 l2 : Option PV} {M : Mem} {Q : Option PV → Mem → Prop} {x : Int32} : WP d 22 168 [l0, l1, l2] ([vi x]) M Q = Q (some (vi x)) M := w_iret mC_22 d22_168 rfl
theorem d22_169 : decode cX3_joinedBy 169 = .ok (.iload_n 2, 1) := by decide +kernel
theorem k22_169 {d : Nat} {x : Int32} {l0 l1 : Option PV} {st : List PV} {M : Mem} {Q : Option PV → Mem → Prop} : WP d 22 169 [l0, l1, some (vi x)] (st) M Q = WP d 22 170 [l0, l1, some (vi x)] (vi x :: st) M Q := w1 mC_22 d22_169 rfl rfl
theorem d22_170 : decode cX3_joinedBy 170 = .ok (.ifCond .ne 7, 3) := by decide +kernel
theorem k22_170 {d : Nat} {l0 l1 l2 : Option PV} {st : List PV} {M : Mem} {Q : Option PV → Mem → Prop} {x : Int32} : WP d 22 170 [l0, l1, l2] (vi x :: st) M Q = (if x = 0 then WP d 22 173 [l0, l1, l2] (st) M Q else WP d 22 177 [l0, l1, l2] (st) M Q) := w_if_ne mC_22 d22_170 (by decide)
theorem d22_173 : decode cX3_joinedBy 173 = .ok (.iconst 0, 1) := by decide +kernel
theorem k22_173 {d : Nat} {l0 l1 l2 : Option PV} {st : List PV} {M : Mem} {Q : Option PV → Mem → Prop} : WP d 22 173 [l0, l1, l2] (st) M Q = WP d 22 174 [l0, l1, l2] (vi 0 :: st) M Q := w_iconst mC_22 d22_173 (by decide)
theorem d22_174 : decode cX3_joinedBy 174 = .ok (.goto 6, 3) := by decide +kernel
theorem k22_174 {d : Nat} {l0 l1 l2 : Option PV} {st : List PV} {M : Mem} {Q : Option PV → Mem → Prop} : WP d 22 174 [l0, l1, l2] (st) M Q = WP d 22 180 [l0, l1, l2] (st) M Q := w_goto mC_22 d22_174 (by decide)
theorem d22_177 : decode cX3_joinedBy 177 = .ok (.iload_n 1, 1) := by decide +kernel
theorem k22_177 {d : Nat} {x : Int32} {l0 l2 : Option PV} {st : List PV} {M : Mem} {Q : Option PV → Mem → Prop} : WP d 22 177 [l0, some (vi x), l2] (st) M Q = WP d 22 178 [l0, some (vi x), l2] (vi x :: st) M Q := w1 mC_22 d22_177 rfl rfl
theorem d22_178 : decode cX3_joinedBy 178 = .ok (.iload_n 2, 1) := by decide +kernel
theorem k22_178 {d : Nat} {x : Int32} {l0 l1 : Option PV} {st : List PV} {M : Mem} {Q : Option PV → Mem → Prop} : WP d 22 178 [l0, l1, some (vi x)] (st) M Q = WP d 22 179 [l0, l1, some (vi x)] (vi x :: st) M Q := w1 mC_22 d22_178 rfl rfl
theorem d22_179 : decode cX3_joinedBy 179 = .ok (.irem, 1) := by decide +kernel
theorem k22_179 {d : Nat} {l0 l1 l2 : Option PV} {st : List PV} {M : Mem} {Q : Option PV → Mem → Prop} {x y : Int32} (h : y ≠ 0) : WP d 22 179 [l0, l1, l2] (vi y :: vi x :: st) M Q = WP d 22 180 [l0, l1, l2] (vi (x % y) :: st) M Q := w_rem mC_22 d22_179 h
theorem d22_180 : decode cX3_joinedBy 180 = .ok (.ireturn, 1) := by decide +kernel
theorem k22_180 {d : Nat} {l0 l1 l2 : Option PV} {M : Mem} {Q : Option PV → Mem → Prop} {x : Int32} : WP d 22 180 [l0, l1, l2] ([vi x]) M Q = Q (some (vi x)) M := w_iret mC_22 d22_180 rfl
theorem d58_0 : decode cX9_init 0 = .ok (.aload_n 0, 1) := by decide +kernel
theorem k58_0 {d x : Nat} {st : List PV} {M : Mem} {Q : Option PV → Mem → Prop} : WP d 58 0 [some (vr x)] (st) M Q = WP d 58 1 [some (vr x)] (vr x :: st) M Q := w1 mC_58 d58_0 rfl rfl
theorem d58_1 : decode cX9_init 1 = .ok (.invokespecial 3, 3) := by decide +kernel
theorem k58_1 {d : Nat} {l0 : Option PV} {st : List PV} {M : Mem} {Q : Option PV → Mem → Prop} {r : Nat} (hl : szL st ≤ 8) (hk : mK M r < 13) : WP d 58 1 [l0] (vr r :: st) M Q = WP d 58 4 [l0] (st) M Q := w_oi mC_58 d58_1 rfl rfl rfl rfl hl hk
theorem d58_4 : decode cX9_init 4 = .ok (.aload_n 0, 1) := by decide +kernel
theorem k58_4 {d x : Nat} {st : List PV} {M : Mem} {Q : Option PV → Mem → Prop} : WP d 58 4 [some (vr x)] (st) M Q = WP d 58 5 [some (vr x)] (vr x :: st) M Q := w1 mC_58 d58_4 rfl rfl
theorem d58_5 : decode cX9_init 5 = .ok (.bipush 60, 2) := by decide +kernel
theorem k58_5 {d : Nat} {l0 : Option PV} {st : List PV} {M : Mem} {Q : Option PV → Mem → Prop} : WP d 58 5 [l0] (st) M Q = WP d 58 7 [l0] (vi 60 :: st) M Q := w_bipush mC_58 d58_5 (by decide)
theorem d58_7 : decode cX9_init 7 = .ok (.newarray .long, 2) := by decide +kernel
theorem k58_7 {d : Nat} {l0 : Option PV} {st : List PV} {M : Mem} {Q : Option PV → Mem → Prop} {x : Int32} (hx : ¬ x < 0 ∧ ix x ≤ 100000) : WP d 58 7 [l0] (vi x :: st) M Q = WP d 58 9 [l0] (vr (mX M) :: st) (nw M 14 (ix x) (ix x)) Q := w_nwl mC_58 d58_7 hx
theorem d58_9 : decode cX9_init 9 = .ok (.putfield 9, 3) := by decide +kernel
theorem k58_9 {d : Nat} {l0 : Option PV} {st : List PV} {M : Mem} {Q : Option PV → Mem → Prop} {r q : Nat} (hk : mK M r = 9) : WP d 58 9 [l0] (vr q :: vr r :: st) M Q = WP d 58 12 [l0] (st) (sR M r 0 q) Q := w_putr mC_58 d58_9 fE_9_9 (by decide +kernel) (by rw [hk]; rfl)
theorem d58_12 : decode cX9_init 12 = .ok (.aload_n 0, 1) := by decide +kernel
theorem k58_12 {d x : Nat} {st : List PV} {M : Mem} {Q : Option PV → Mem → Prop} : WP d 58 12 [some (vr x)] (st) M Q = WP d 58 13 [some (vr x)] (vr x :: st) M Q := w1 mC_58 d58_12 rfl rfl
theorem d58_13 : decode cX9_init 13 = .ok (.iconst (-1), 1) := by decide +kernel
theorem k58_13 {d : Nat} {l0 : Option PV} {st : List PV} {M : Mem} {Q : Option PV → Mem → Prop} : WP d 58 13 [l0] (st) M Q = WP d 58 14 [l0] (vi (-1) :: st) M Q := w_iconst mC_58 d58_13 (by decide)
theorem d58_14 : decode cX9_init 14 = .ok (.putfield 15, 3) := by decide +kernel
theorem k58_14 {d : Nat} {l0 : Option PV} {st : List PV} {M : Mem} {Q : Option PV → Mem → Prop} {r : Nat} {x : Int32} (hk : mK M r = 9) : WP d 58 14 [l0] (vi x :: vr r :: st) M Q = WP d 58 17 [l0] (st) (sI M r 2 x) Q := w_put mC_58 d58_14 fE_9_15 (by decide +kernel) (by rw [hk]; rfl)
theorem d58_17 : decode cX9_init 17 = .ok (.return_, 1) := by decide +kernel
theorem k58_17 {d : Nat} {l0 : Option PV} {M : Mem} {Q : Option PV → Mem → Prop} : WP d 58 17 [l0] ([]) M Q = Q none M := w_vret mC_58 d58_17 rfl
theorem d59_0 : decode cX9_isBare 0 = .ok (.aload_n 0, 1) := by decide +kernel
theorem k59_0 {d x : Nat} {st : List PV} {M : Mem} {Q : Option PV → Mem → Prop} : WP d 59 0 [some (vr x)] (st) M Q = WP d 59 1 [some (vr x)] (vr x :: st) M Q := w1 mC_59 d59_0 rfl rfl
theorem d59_1 : decode cX9_isBare 1 = .ok (.getfield 19, 3) := by decide +kernel
theorem k59_1 {d : Nat} {l0 : Option PV} {st : List PV} {M : Mem} {Q : Option PV → Mem → Prop} {r : Nat} (hk : mK M r = 9) : WP d 59 1 [l0] (vr r :: st) M Q = WP d 59 4 [l0] (vr (mR M r 1) :: st) M Q := w_getr mC_59 d59_1 fE_9_19 rfl (by rw [hk]; rfl)
theorem d59_4 : decode cX9_isBare 4 = .ok (.ifnonnull 14, 3) := by decide +kernel
theorem k59_4 {d : Nat} {l0 : Option PV} {st : List PV} {M : Mem} {Q : Option PV → Mem → Prop} {r : Nat} : WP d 59 4 [l0] (vr r :: st) M Q = (if r = 0 then WP d 59 7 [l0] (st) M Q else WP d 59 18 [l0] (st) M Q) := w_nonnull mC_59 d59_4 (by decide)
theorem d59_7 : decode cX9_isBare 7 = .ok (.aload_n 0, 1) := by decide +kernel
theorem k59_7 {d x : Nat} {st : List PV} {M : Mem} {Q : Option PV → Mem → Prop} : WP d 59 7 [some (vr x)] (st) M Q = WP d 59 8 [some (vr x)] (vr x :: st) M Q := w1 mC_59 d59_7 rfl rfl
theorem d59_8 : decode cX9_isBare 8 = .ok (.getfield 15, 3) := by decide +kernel
theorem k59_8 {d : Nat} {l0 : Option PV} {st : List PV} {M : Mem} {Q : Option PV → Mem → Prop} {r : Nat} (hk : mK M r = 9) : WP d 59 8 [l0] (vr r :: st) M Q = WP d 59 11 [l0] (vi (mI M r 2) :: st) M Q := w_get mC_59 d59_8 fE_9_15 rfl (by rw [hk]; rfl)
theorem d59_11 : decode cX9_isBare 11 = .ok (.ifCond .ge 7, 3) := by decide +kernel
theorem k59_11 {d : Nat} {l0 : Option PV} {st : List PV} {M : Mem} {Q : Option PV → Mem → Prop} {x : Int32} : WP d 59 11 [l0] (vi x :: st) M Q = (if 0 ≤ x then WP d 59 18 [l0] (st) M Q else WP d 59 14 [l0] (st) M Q) := w_if_ge mC_59 d59_11 (by decide)
theorem d59_14 : decode cX9_isBare 14 = .ok (.iconst 1, 1) := by decide +kernel
theorem k59_14 {d : Nat} {l0 : Option PV} {st : List PV} {M : Mem} {Q : Option PV → Mem → Prop} : WP d 59 14 [l0] (st) M Q = WP d 59 15 [l0] (vi 1 :: st) M Q := w_iconst mC_59 d59_14 (by decide)
theorem d59_15 : decode cX9_isBare 15 = .ok (.goto 4, 3) := by decide +kernel
theorem k59_15 {d : Nat} {l0 : Option PV} {st : List PV} {M : Mem} {Q : Option PV → Mem → Prop} : WP d 59 15 [l0] (st) M Q = WP d 59 19 [l0] (st) M Q := w_goto mC_59 d59_15 (by decide)
theorem d59_18 : decode cX9_isBare 18 = .ok (.iconst 0, 1) := by decide +kernel
theorem k59_18 {d : Nat} {l0 : Option PV} {st : List PV} {M : Mem} {Q : Option PV → Mem → Prop} : WP d 59 18 [l0] (st) M Q = WP d 59 19 [l0] (vi 0 :: st) M Q := w_iconst mC_59 d59_18 (by decide)
theorem d59_19 : decode cX9_isBare 19 = .ok (.ireturn, 1) := by decide +kernel
theorem k59_19 {d : Nat} {l0 : Option PV} {M : Mem} {Q : Option PV → Mem → Prop} {x : Int32} (hx : x = 0 ∨ x = 1) : WP d 59 19 [l0] ([vi x]) M Q = Q (some (vi x)) M := w_zret mC_59 d59_19 rfl hx
theorem d60_0 : decode cX9_isRow 0 = .ok (.aload_n 0, 1) := by decide +kernel
theorem k60_0 {d x : Nat} {st : List PV} {M : Mem} {Q : Option PV → Mem → Prop} : WP d 60 0 [some (vr x)] (st) M Q = WP d 60 1 [some (vr x)] (vr x :: st) M Q := w1 mC_60 d60_0 rfl rfl
theorem d60_1 : decode cX9_isRow 1 = .ok (.getfield 15, 3) := by decide +kernel
theorem k60_1 {d : Nat} {l0 : Option PV} {st : List PV} {M : Mem} {Q : Option PV → Mem → Prop} {r : Nat} (hk : mK M r = 9) : WP d 60 1 [l0] (vr r :: st) M Q = WP d 60 4 [l0] (vi (mI M r 2) :: st) M Q := w_get mC_60 d60_1 fE_9_15 rfl (by rw [hk]; rfl)
theorem d60_4 : decode cX9_isRow 4 = .ok (.ifCond .lt 7, 3) := by decide +kernel
theorem k60_4 {d : Nat} {l0 : Option PV} {st : List PV} {M : Mem} {Q : Option PV → Mem → Prop} {x : Int32} : WP d 60 4 [l0] (vi x :: st) M Q = (if x < 0 then WP d 60 11 [l0] (st) M Q else WP d 60 7 [l0] (st) M Q) := w_if_lt mC_60 d60_4 (by decide)
theorem d60_7 : decode cX9_isRow 7 = .ok (.iconst 1, 1) := by decide +kernel
theorem k60_7 {d : Nat} {l0 : Option PV} {st : List PV} {M : Mem} {Q : Option PV → Mem → Prop} : WP d 60 7 [l0] (st) M Q = WP d 60 8 [l0] (vi 1 :: st) M Q := w_iconst mC_60 d60_7 (by decide)
theorem d60_8 : decode cX9_isRow 8 = .ok (.goto 4, 3) := by decide +kernel
theorem k60_8 {d : Nat} {l0 : Option PV} {st : List PV} {M : Mem} {Q : Option PV → Mem → Prop} : WP d 60 8 [l0] (st) M Q = WP d 60 12 [l0] (st) M Q := w_goto mC_60 d60_8 (by decide)
theorem d60_11 : decode cX9_isRow 11 = .ok (.iconst 0, 1) := by decide +kernel
theorem k60_11 {d : Nat} {l0 : Option PV} {st : List PV} {M : Mem} {Q : Option PV → Mem → Prop} : WP d 60 11 [l0] (st) M Q = WP d 60 12 [l0] (vi 0 :: st) M Q := w_iconst mC_60 d60_11 (by decide)
theorem d60_12 : decode cX9_isRow 12 = .ok (.ireturn, 1) := by decide +kernel
theorem k60_12 {d : Nat} {l0 : Option PV} {M : Mem} {Q : Option PV → Mem → Prop} {x : Int32} (hx : x = 0 ∨ x = 1) : WP d 60 12 [l0] ([vi x]) M Q = Q (some (vi x)) M := w_zret mC_60 d60_12 rfl hx
theorem d61_0 : decode cX9_isBytes 0 = .ok (.aload_n 0, 1) := by decide +kernel
theorem k61_0 {d x : Nat} {st : List PV} {M : Mem} {Q : Option PV → Mem → Prop} : WP d 61 0 [some (vr x)] (st) M Q = WP d 61 1 [some (vr x)] (vr x :: st) M Q := w1 mC_61 d61_0 rfl rfl
theorem d61_1 : decode cX9_isBytes 1 = .ok (.getfield 15, 3) := by decide +kernel
theorem k61_1 {d : Nat} {l0 : Option PV} {st : List PV} {M : Mem} {Q : Option PV → Mem → Prop} {r : Nat} (hk : mK M r = 9) : WP d 61 1 [l0] (vr r :: st) M Q = WP d 61 4 [l0] (vi (mI M r 2) :: st) M Q := w_get mC_61 d61_1 fE_9_15 rfl (by rw [hk]; rfl)
theorem d61_4 : decode cX9_isBytes 4 = .ok (.ifCond .ne 7, 3) := by decide +kernel
theorem k61_4 {d : Nat} {l0 : Option PV} {st : List PV} {M : Mem} {Q : Option PV → Mem → Prop} {x : Int32} : WP d 61 4 [l0] (vi x :: st) M Q = (if x = 0 then WP d 61 7 [l0] (st) M Q else WP d 61 11 [l0] (st) M Q) := w_if_ne mC_61 d61_4 (by decide)
theorem d61_7 : decode cX9_isBytes 7 = .ok (.iconst 1, 1) := by decide +kernel
theorem k61_7 {d : Nat} {l0 : Option PV} {st : List PV} {M : Mem} {Q : Option PV → Mem → Prop} : WP d 61 7 [l0] (st) M Q = WP d 61 8 [l0] (vi 1 :: st) M Q := w_iconst mC_61 d61_7 (by decide)
theorem d61_8 : decode cX9_isBytes 8 = .ok (.goto 4, 3) := by decide +kernel
theorem k61_8 {d : Nat} {l0 : Option PV} {st : List PV} {M : Mem} {Q : Option PV → Mem → Prop} : WP d 61 8 [l0] (st) M Q = WP d 61 12 [l0] (st) M Q := w_goto mC_61 d61_8 (by decide)
theorem d61_11 : decode cX9_isBytes 11 = .ok (.iconst 0, 1) := by decide +kernel
theorem k61_11 {d : Nat} {l0 : Option PV} {st : List PV} {M : Mem} {Q : Option PV → Mem → Prop} : WP d 61 11 [l0] (st) M Q = WP d 61 12 [l0] (vi 0 :: st) M Q := w_iconst mC_61 d61_11 (by decide)
theorem d61_12 : decode cX9_isBytes 12 = .ok (.ireturn, 1) := by decide +kernel
theorem k61_12 {d : Nat} {l0 : Option PV} {M : Mem} {Q : Option PV → Mem → Prop} {x : Int32} (hx : x = 0 ∨ x = 1) : WP d 61 12 [l0] ([vi x]) M Q = Q (some (vi x)) M := w_zret mC_61 d61_12 rfl hx
theorem d62_0 : decode cX9_hold 0 = .ok (.aload_n 0, 1) := by decide +kernel
theorem k62_0 {d x : Nat} {l1 : Option PV} {st : List PV} {M : Mem} {Q : Option PV → Mem → Prop} : WP d 62 0 [some (vr x), l1] (st) M Q = WP d 62 1 [some (vr x), l1] (vr x :: st) M Q := w1 mC_62 d62_0 rfl rfl
theorem d62_1 : decode cX9_hold 1 = .ok (.aload_n 1, 1) := by decide +kernel
theorem k62_1 {d x : Nat} {l0 : Option PV} {st : List PV} {M : Mem} {Q : Option PV → Mem → Prop} : WP d 62 1 [l0, some (vr x)] (st) M Q = WP d 62 2 [l0, some (vr x)] (vr x :: st) M Q := w1 mC_62 d62_1 rfl rfl
theorem d62_2 : decode cX9_hold 2 = .ok (.putfield 19, 3) := by decide +kernel
theorem k62_2 {d : Nat} {l0 l1 : Option PV} {st : List PV} {M : Mem} {Q : Option PV → Mem → Prop} {r q : Nat} (hk : mK M r = 9) : WP d 62 2 [l0, l1] (vr q :: vr r :: st) M Q = WP d 62 5 [l0, l1] (st) (sR M r 1 q) Q := w_putr mC_62 d62_2 fE_9_19 (by decide +kernel) (by rw [hk]; rfl)
theorem d62_5 : decode cX9_hold 5 = .ok (.aload_n 0, 1) := by decide +kernel
theorem k62_5 {d x : Nat} {l1 : Option PV} {st : List PV} {M : Mem} {Q : Option PV → Mem → Prop} : WP d 62 5 [some (vr x), l1] (st) M Q = WP d 62 6 [some (vr x), l1] (vr x :: st) M Q := w1 mC_62 d62_5 rfl rfl
theorem d62_6 : decode cX9_hold 6 = .ok (.iconst (-1), 1) := by decide +kernel
theorem k62_6 {d : Nat} {l0 l1 : Option PV} {st : List PV} {M : Mem} {Q : Option PV → Mem → Prop} : WP d 62 6 [l0, l1] (st) M Q = WP d 62 7 [l0, l1] (vi (-1) :: st) M Q := w_iconst mC_62 d62_6 (by decide)
theorem d62_7 : decode cX9_hold 7 = .ok (.putfield 15, 3) := by decide +kernel
theorem k62_7 {d : Nat} {l0 l1 : Option PV} {st : List PV} {M : Mem} {Q : Option PV → Mem → Prop} {r : Nat} {x : Int32} (hk : mK M r = 9) : WP d 62 7 [l0, l1] (vi x :: vr r :: st) M Q = WP d 62 10 [l0, l1] (st) (sI M r 2 x) Q := w_put mC_62 d62_7 fE_9_15 (by decide +kernel) (by rw [hk]; rfl)
theorem d62_10 : decode cX9_hold 10 = .ok (.aload_n 0, 1) := by decide +kernel
theorem k62_10 {d x : Nat} {l1 : Option PV} {st : List PV} {M : Mem} {Q : Option PV → Mem → Prop} : WP d 62 10 [some (vr x), l1] (st) M Q = WP d 62 11 [some (vr x), l1] (vr x :: st) M Q := w1 mC_62 d62_10 rfl rfl
theorem d62_11 : decode cX9_hold 11 = .ok (.iconst 0, 1) := by decide +kernel
theorem k62_11 {d : Nat} {l0 l1 : Option PV} {st : List PV} {M : Mem} {Q : Option PV → Mem → Prop} : WP d 62 11 [l0, l1] (st) M Q = WP d 62 12 [l0, l1] (vi 0 :: st) M Q := w_iconst mC_62 d62_11 (by decide)
theorem d62_12 : decode cX9_hold 12 = .ok (.putfield 23, 3) := by decide +kernel
theorem k62_12 {d : Nat} {l0 l1 : Option PV} {st : List PV} {M : Mem} {Q : Option PV → Mem → Prop} {r : Nat} {x : Int32} (hk : mK M r = 9) : WP d 62 12 [l0, l1] (vi x :: vr r :: st) M Q = WP d 62 15 [l0, l1] (st) (sI M r 3 x) Q := w_put mC_62 d62_12 fE_9_23 (by decide +kernel) (by rw [hk]; rfl)
theorem d62_15 : decode cX9_hold 15 = .ok (.return_, 1) := by decide +kernel
theorem k62_15 {d : Nat} {l0 l1 : Option PV} {M : Mem} {Q : Option PV → Mem → Prop} : WP d 62 15 [l0, l1] ([]) M Q = Q none M := w_vret mC_62 d62_15 rfl
theorem d63_0 : decode cX9_holdRow 0 = .ok (.aload_n 0, 1) := by decide +kernel
theorem k63_0 {d x : Nat} {l1 l2 : Option PV} {st : List PV} {M : Mem} {Q : Option PV → Mem → Prop} : WP d 63 0 [some (vr x), l1, l2] (st) M Q = WP d 63 1 [some (vr x), l1, l2] (vr x :: st) M Q := w1 mC_63 d63_0 rfl rfl
theorem d63_1 : decode cX9_holdRow 1 = .ok (.aconst_null, 1) := by decide +kernel
theorem k63_1 {d : Nat} {l0 l1 l2 : Option PV} {st : List PV} {M : Mem} {Q : Option PV → Mem → Prop} : WP d 63 1 [l0, l1, l2] (st) M Q = WP d 63 2 [l0, l1, l2] (vr 0 :: st) M Q := w1 mC_63 d63_1 rfl rfl
theorem d63_2 : decode cX9_holdRow 2 = .ok (.putfield 19, 3) := by decide +kernel
theorem k63_2 {d : Nat} {l0 l1 l2 : Option PV} {st : List PV} {M : Mem} {Q : Option PV → Mem → Prop} {r q : Nat} (hk : mK M r = 9) : WP d 63 2 [l0, l1, l2] (vr q :: vr r :: st) M Q = WP d 63 5 [l0, l1, l2] (st) (sR M r 1 q) Q := w_putr mC_63 d63_2 fE_9_19 (by decide +kernel) (by rw [hk]; rfl)
theorem d63_5 : decode cX9_holdRow 5 = .ok (.aload_n 0, 1) := by decide +kernel
theorem k63_5 {d x : Nat} {l1 l2 : Option PV} {st : List PV} {M : Mem} {Q : Option PV → Mem → Prop} : WP d 63 5 [some (vr x), l1, l2] (st) M Q = WP d 63 6 [some (vr x), l1, l2] (vr x :: st) M Q := w1 mC_63 d63_5 rfl rfl
theorem d63_6 : decode cX9_holdRow 6 = .ok (.iload_n 1, 1) := by decide +kernel
theorem k63_6 {d : Nat} {x : Int32} {l0 l2 : Option PV} {st : List PV} {M : Mem} {Q : Option PV → Mem → Prop} : WP d 63 6 [l0, some (vi x), l2] (st) M Q = WP d 63 7 [l0, some (vi x), l2] (vi x :: st) M Q := w1 mC_63 d63_6 rfl rfl
theorem d63_7 : decode cX9_holdRow 7 = .ok (.putfield 15, 3) := by decide +kernel
theorem k63_7 {d : Nat} {l0 l1 l2 : Option PV} {st : List PV} {M : Mem} {Q : Option PV → Mem → Prop} {r : Nat} {x : Int32} (hk : mK M r = 9) : WP d 63 7 [l0, l1, l2] (vi x :: vr r :: st) M Q = WP d 63 10 [l0, l1, l2] (st) (sI M r 2 x) Q := w_put mC_63 d63_7 fE_9_15 (by decide +kernel) (by rw [hk]; rfl)
theorem d63_10 : decode cX9_holdRow 10 = .ok (.aload_n 0, 1) := by decide +kernel
theorem k63_10 {d x : Nat} {l1 l2 : Option PV} {st : List PV} {M : Mem} {Q : Option PV → Mem → Prop} : WP d 63 10 [some (vr x), l1, l2] (st) M Q = WP d 63 11 [some (vr x), l1, l2] (vr x :: st) M Q := w1 mC_63 d63_10 rfl rfl
theorem d63_11 : decode cX9_holdRow 11 = .ok (.iload_n 2, 1) := by decide +kernel
theorem k63_11 {d : Nat} {x : Int32} {l0 l1 : Option PV} {st : List PV} {M : Mem} {Q : Option PV → Mem → Prop} : WP d 63 11 [l0, l1, some (vi x)] (st) M Q = WP d 63 12 [l0, l1, some (vi x)] (vi x :: st) M Q := w1 mC_63 d63_11 rfl rfl
theorem d63_12 : decode cX9_holdRow 12 = .ok (.putfield 23, 3) := by decide +kernel
theorem k63_12 {d : Nat} {l0 l1 l2 : Option PV} {st : List PV} {M : Mem} {Q : Option PV → Mem → Prop} {r : Nat} {x : Int32} (hk : mK M r = 9) : WP d 63 12 [l0, l1, l2] (vi x :: vr r :: st) M Q = WP d 63 15 [l0, l1, l2] (st) (sI M r 3 x) Q := w_put mC_63 d63_12 fE_9_23 (by decide +kernel) (by rw [hk]; rfl)
theorem d63_15 : decode cX9_holdRow 15 = .ok (.aload_n 0, 1) := by decide +kernel
theorem k63_15 {d x : Nat} {l1 l2 : Option PV} {st : List PV} {M : Mem} {Q : Option PV → Mem → Prop} : WP d 63 15 [some (vr x), l1, l2] (st) M Q = WP d 63 16 [some (vr x), l1, l2] (vr x :: st) M Q := w1 mC_63 d63_15 rfl rfl
theorem d63_16 : decode cX9_holdRow 16 = .ok (.getfield 9, 3) := by decide +kernel
theorem k63_16 {d : Nat} {l0 l1 l2 : Option PV} {st : List PV} {M : Mem} {Q : Option PV → Mem → Prop} {r : Nat} (hk : mK M r = 9) : WP d 63 16 [l0, l1, l2] (vr r :: st) M Q = WP d 63 19 [l0, l1, l2] (vr (mR M r 0) :: st) M Q := w_getr mC_63 d63_16 fE_9_9 rfl (by rw [hk]; rfl)
theorem d63_19 : decode cX9_holdRow 19 = .ok (.lconst 0, 1) := by decide +kernel
theorem k63_19 {d : Nat} {l0 l1 l2 : Option PV} {st : List PV} {M : Mem} {Q : Option PV → Mem → Prop} : WP d 63 19 [l0, l1, l2] (st) M Q = WP d 63 20 [l0, l1, l2] (vl 0 :: st) M Q := w_lconst mC_63 d63_19 (by decide)
theorem d63_20 : decode cX9_holdRow 20 = .ok (.invokestatic 26, 3) := by decide +kernel
theorem k63_20 {d : Nat} {l0 l1 l2 : Option PV} {st : List PV} {M : Mem} {Q : Option PV → Mem → Prop} {a0 : Nat} {a1 : Int64} (hl : szL st ≤ 8) : WP (d + 1) 63 20 [l0, l1, l2] (vl a1 :: vr a0 :: st) M Q = WP d 248 0 [some (vr a0), some (vl a1), none, none, none] [] M (fun v M' => WP (d + 1) 63 23 [l0, l1, l2] (psh v st) M' Q) := w_callS mC_63 d63_20 rfl rfl (Nat.le_of_ble_eq_true rfl) (by decide) rfl hl
theorem d63_23 : decode cX9_holdRow 23 = .ok (.return_, 1) := by decide +kernel
theorem k63_23 {d : Nat} {l0 l1 l2 : Option PV} {M : Mem} {Q : Option PV → Mem → Prop} : WP d 63 23 [l0, l1, l2] ([]) M Q = Q none M := w_vret mC_63 d63_23 rfl
theorem d64_0 : decode cX9_hasPart 0 = .ok (.iload_n 2, 1) := by decide +kernel
theorem k64_0 {d : Nat} {x : Int32} {l0 l1 : Option PV} {st : List PV} {M : Mem} {Q : Option PV → Mem → Prop} : WP d 64 0 [l0, l1, some (vi x)] (st) M Q = WP d 64 1 [l0, l1, some (vi x)] (vi x :: st) M Q := w1 mC_64 d64_0 rfl rfl
theorem d64_1 : decode cX9_hasPart 1 = .ok (.ifCond .lt 21, 3) := by decide +kernel
theorem k64_1 {d : Nat} {l0 l1 l2 : Option PV} {st : List PV} {M : Mem} {Q : Option PV → Mem → Prop} {x : Int32} : WP d 64 1 [l0, l1, l2] (vi x :: st) M Q = (if x < 0 then WP d 64 22 [l0, l1, l2] (st) M Q else WP d 64 4 [l0, l1, l2] (st) M Q) := w_if_lt mC_64 d64_1 (by decide)
theorem d64_4 : decode cX9_hasPart 4 = .ok (.iload_n 1, 1) := by decide +kernel
theorem k64_4 {d : Nat} {x : Int32} {l0 l2 : Option PV} {st : List PV} {M : Mem} {Q : Option PV → Mem → Prop} : WP d 64 4 [l0, some (vi x), l2] (st) M Q = WP d 64 5 [l0, some (vi x), l2] (vi x :: st) M Q := w1 mC_64 d64_4 rfl rfl
theorem d64_5 : decode cX9_hasPart 5 = .ok (.ifCond .lt 17, 3) := by decide +kernel
theorem k64_5 {d : Nat} {l0 l1 l2 : Option PV} {st : List PV} {M : Mem} {Q : Option PV → Mem → Prop} {x : Int32} : WP d 64 5 [l0, l1, l2] (vi x :: st) M Q = (if x < 0 then WP d 64 22 [l0, l1, l2] (st) M Q else WP d 64 8 [l0, l1, l2] (st) M Q) := w_if_lt mC_64 d64_5 (by decide)
theorem d64_8 : decode cX9_hasPart 8 = .ok (.iload_n 1, 1) := by decide +kernel
theorem k64_8 {d : Nat} {x : Int32} {l0 l2 : Option PV} {st : List PV} {M : Mem} {Q : Option PV → Mem → Prop} : WP d 64 8 [l0, some (vi x), l2] (st) M Q = WP d 64 9 [l0, some (vi x), l2] (vi x :: st) M Q := w1 mC_64 d64_8 rfl rfl
theorem d64_9 : decode cX9_hasPart 9 = .ok (.aload_n 0, 1) := by decide +kernel
theorem k64_9 {d x : Nat} {l1 l2 : Option PV} {st : List PV} {M : Mem} {Q : Option PV → Mem → Prop} : WP d 64 9 [some (vr x), l1, l2] (st) M Q = WP d 64 10 [some (vr x), l1, l2] (vr x :: st) M Q := w1 mC_64 d64_9 rfl rfl
theorem d64_10 : decode cX9_hasPart 10 = .ok (.getfield 23, 3) := by decide +kernel
theorem k64_10 {d : Nat} {l0 l1 l2 : Option PV} {st : List PV} {M : Mem} {Q : Option PV → Mem → Prop} {r : Nat} (hk : mK M r = 9) : WP d 64 10 [l0, l1, l2] (vr r :: st) M Q = WP d 64 13 [l0, l1, l2] (vi (mI M r 3) :: st) M Q := w_get mC_64 d64_10 fE_9_23 rfl (by rw [hk]; rfl)
theorem d64_13 : decode cX9_hasPart 13 = .ok (.iload_n 2, 1) := by decide +kernel
theorem k64_13 {d : Nat} {x : Int32} {l0 l1 : Option PV} {st : List PV} {M : Mem} {Q : Option PV → Mem → Prop} : WP d 64 13 [l0, l1, some (vi x)] (st) M Q = WP d 64 14 [l0, l1, some (vi x)] (vi x :: st) M Q := w1 mC_64 d64_13 rfl rfl
theorem d64_14 : decode cX9_hasPart 14 = .ok (.isub, 1) := by decide +kernel
theorem k64_14 {d : Nat} {l0 l1 l2 : Option PV} {st : List PV} {M : Mem} {Q : Option PV → Mem → Prop} {x y : Int32} : WP d 64 14 [l0, l1, l2] (vi y :: vi x :: st) M Q = WP d 64 15 [l0, l1, l2] (vi (x - y) :: st) M Q := w1 mC_64 d64_14 rfl rfl
theorem d64_15 : decode cX9_hasPart 15 = .ok (.if_icmp .gt 7, 3) := by decide +kernel
theorem k64_15 {d : Nat} {l0 l1 l2 : Option PV} {st : List PV} {M : Mem} {Q : Option PV → Mem → Prop} {x y : Int32} : WP d 64 15 [l0, l1, l2] (vi y :: vi x :: st) M Q = (if y < x then WP d 64 22 [l0, l1, l2] (st) M Q else WP d 64 18 [l0, l1, l2] (st) M Q) := w_ic_gt mC_64 d64_15 (by decide)
theorem d64_18 : decode cX9_hasPart 18 = .ok (.iconst 1, 1) := by decide +kernel
theorem k64_18 {d : Nat} {l0 l1 l2 : Option PV} {st : List PV} {M : Mem} {Q : Option PV → Mem → Prop} : WP d 64 18 [l0, l1, l2] (st) M Q = WP d 64 19 [l0, l1, l2] (vi 1 :: st) M Q := w_iconst mC_64 d64_18 (by decide)
theorem d64_19 : decode cX9_hasPart 19 = .ok (.goto 4, 3) := by decide +kernel
theorem k64_19 {d : Nat} {l0 l1 l2 : Option PV} {st : List PV} {M : Mem} {Q : Option PV → Mem → Prop} : WP d 64 19 [l0, l1, l2] (st) M Q = WP d 64 23 [l0, l1, l2] (st) M Q := w_goto mC_64 d64_19 (by decide)
theorem d64_22 : decode cX9_hasPart 22 = .ok (.iconst 0, 1) := by decide +kernel
theorem k64_22 {d : Nat} {l0 l1 l2 : Option PV} {st : List PV} {M : Mem} {Q : Option PV → Mem → Prop} : WP d 64 22 [l0, l1, l2] (st) M Q = WP d 64 23 [l0, l1, l2] (vi 0 :: st) M Q := w_iconst mC_64 d64_22 (by decide)
theorem d64_23 : decode cX9_hasPart 23 = .ok (.ireturn, 1) := by decide +kernel
theorem k64_23 {d : Nat} {l0 l1 l2 : Option PV} {M : Mem} {Q : Option PV → Mem → Prop} {x : Int32} (hx : x = 0 ∨ x = 1) : WP d 64 23 [l0, l1, l2] ([vi x]) M Q = Q (some (vi x)) M := w_zret mC_64 d64_23 rfl hx
theorem d65_0 : decode cX9_at 0 = .ok (.aload_n 0, 1) := by decide +kernel
theorem k65_0 {d x : Nat} {l1 : Option PV} {st : List PV} {M : Mem} {Q : Option PV → Mem → Prop} : WP d 65 0 [some (vr x), l1] (st) M Q = WP d 65 1 [some (vr x), l1] (vr x :: st) M Q := w1 mC_65 d65_0 rfl rfl
theorem d65_1 : decode cX9_at 1 = .ok (.iload_n 1, 1) := by decide +kernel
theorem k65_1 {d : Nat} {x : Int32} {l0 : Option PV} {st : List PV} {M : Mem} {Q : Option PV → Mem → Prop} : WP d 65 1 [l0, some (vi x)] (st) M Q = WP d 65 2 [l0, some (vi x)] (vi x :: st) M Q := w1 mC_65 d65_1 rfl rfl
theorem d65_2 : decode cX9_at 2 = .ok (.iconst 1, 1) := by decide +kernel
theorem k65_2 {d : Nat} {l0 l1 : Option PV} {st : List PV} {M : Mem} {Q : Option PV → Mem → Prop} : WP d 65 2 [l0, l1] (st) M Q = WP d 65 3 [l0, l1] (vi 1 :: st) M Q := w_iconst mC_65 d65_2 (by decide)
theorem d65_3 : decode cX9_at 3 = .ok (.invokevirtual 32, 3) := by decide +kernel
theorem k65_3 {d : Nat} {l0 l1 : Option PV} {st : List PV} {M : Mem} {Q : Option PV → Mem → Prop} {a0 a1 : Int32} {r : Nat} (hl : szL st ≤ 8) (hk : mK M r = 9) : WP (d + 1) 65 3 [l0, l1] (vi a1 :: vi a0 :: vr r :: st) M Q = WP d 64 0 [some (vr r), some (vi a0), some (vi a1)] [] M (fun v M' => WP (d + 1) 65 6 [l0, l1] (psh v st) M' Q) := w_callV mC_65 d65_3 (ci := 9) rfl rfl rfl (Nat.le_of_ble_eq_true rfl) (by decide) rfl hl (Or.inl hk)
theorem d65_6 : decode cX9_at 6 = .ok (.ifCond .eq 12, 3) := by decide +kernel
theorem k65_6 {d : Nat} {l0 l1 : Option PV} {st : List PV} {M : Mem} {Q : Option PV → Mem → Prop} {x : Int32} : WP d 65 6 [l0, l1] (vi x :: st) M Q = (if x = 0 then WP d 65 18 [l0, l1] (st) M Q else WP d 65 9 [l0, l1] (st) M Q) := w_if_eq mC_65 d65_6 (by decide)
theorem d65_9 : decode cX9_at 9 = .ok (.aload_n 0, 1) := by decide +kernel
theorem k65_9 {d x : Nat} {l1 : Option PV} {st : List PV} {M : Mem} {Q : Option PV → Mem → Prop} : WP d 65 9 [some (vr x), l1] (st) M Q = WP d 65 10 [some (vr x), l1] (vr x :: st) M Q := w1 mC_65 d65_9 rfl rfl
theorem d65_10 : decode cX9_at 10 = .ok (.getfield 9, 3) := by decide +kernel
theorem k65_10 {d : Nat} {l0 l1 : Option PV} {st : List PV} {M : Mem} {Q : Option PV → Mem → Prop} {r : Nat} (hk : mK M r = 9) : WP d 65 10 [l0, l1] (vr r :: st) M Q = WP d 65 13 [l0, l1] (vr (mR M r 0) :: st) M Q := w_getr mC_65 d65_10 fE_9_9 rfl (by rw [hk]; rfl)
theorem d65_13 : decode cX9_at 13 = .ok (.iload_n 1, 1) := by decide +kernel
theorem k65_13 {d : Nat} {x : Int32} {l0 : Option PV} {st : List PV} {M : Mem} {Q : Option PV → Mem → Prop} : WP d 65 13 [l0, some (vi x)] (st) M Q = WP d 65 14 [l0, some (vi x)] (vi x :: st) M Q := w1 mC_65 d65_13 rfl rfl
theorem d65_14 : decode cX9_at 14 = .ok (.laload, 1) := by decide +kernel
theorem k65_14 {d : Nat} {l0 l1 : Option PV} {st : List PV} {M : Mem} {Q : Option PV → Mem → Prop} {r : Nat} {j : Int32} (hk : mK M r = 14) (hj : inb j (mN M r)) (h1 : r ≠ 1) : WP d 65 14 [l0, l1] (vi j :: vr r :: st) M Q = WP d 65 15 [l0, l1] (vl (mJ M r (ix j)) :: st) M Q := w_lald mC_65 d65_14 hk hj h1
theorem d65_15 : decode cX9_at 15 = .ok (.goto 4, 3) := by decide +kernel
theorem k65_15 {d : Nat} {l0 l1 : Option PV} {st : List PV} {M : Mem} {Q : Option PV → Mem → Prop} : WP d 65 15 [l0, l1] (st) M Q = WP d 65 19 [l0, l1] (st) M Q := w_goto mC_65 d65_15 (by decide)
theorem d65_18 : decode cX9_at 18 = .ok (.lconst 0, 1) := by decide +kernel
theorem k65_18 {d : Nat} {l0 l1 : Option PV} {st : List PV} {M : Mem} {Q : Option PV → Mem → Prop} : WP d 65 18 [l0, l1] (st) M Q = WP d 65 19 [l0, l1] (vl 0 :: st) M Q := w_lconst mC_65 d65_18 (by decide)
theorem d65_19 : decode cX9_at 19 = .ok (.lreturn, 1) := by decide +kernel
theorem k65_19 {d : Nat} {l0 l1 : Option PV} {M : Mem} {Q : Option PV → Mem → Prop} {x : Int64} : WP d 65 19 [l0, l1] ([vl x]) M Q = Q (some (vl x)) M := w_lret mC_65 d65_19 rfl
theorem d66_0 : decode cX9_become 0 = .ok (.aload_n 0, 1) := by decide +kernel
theorem k66_0 {d x : Nat} {l1 l2 l3 : Option PV} {st : List PV} {M : Mem} {Q : Option PV → Mem → Prop} : WP d 66 0 [some (vr x), l1, l2, l3] (st) M Q = WP d 66 1 [some (vr x), l1, l2, l3] (vr x :: st) M Q := w1 mC_66 d66_0 rfl rfl
theorem d66_1 : decode cX9_become 1 = .ok (.getfield 15, 3) := by decide +kernel
theorem k66_1 {d : Nat} {l0 l1 l2 l3 : Option PV} {st : List PV} {M : Mem} {Q : Option PV → Mem → Prop} {r : Nat} (hk : mK M r = 9) : WP d 66 1 [l0, l1, l2, l3] (vr r :: st) M Q = WP d 66 4 [l0, l1, l2, l3] (vi (mI M r 2) :: st) M Q := w_get mC_66 d66_1 fE_9_15 rfl (by rw [hk]; rfl)
theorem d66_4 : decode cX9_become 4 = .ok (.tableswitch 80 0 3 #[32, 45, 58, 70], 32) := by decide +kernel
theorem k66_4c0 {d : Nat} {l0 l1 l2 l3 : Option PV} {st : List PV} {M : Mem} {Q : Option PV → Mem → Prop} : WP d 66 4 [l0, l1, l2, l3] (vi 0 :: st) M Q = WP d 66 36 [l0, l1, l2, l3] (st) M Q := w_sw mC_66 d66_4 (by decide +kernel)
theorem k66_4c1 {d : Nat} {l0 l1 l2 l3 : Option PV} {st : List PV} {M : Mem} {Q : Option PV → Mem → Prop} : WP d 66 4 [l0, l1, l2, l3] (vi 1 :: st) M Q = WP d 66 49 [l0, l1, l2, l3] (st) M Q := w_sw mC_66 d66_4 (by decide +kernel)
theorem k66_4c2 {d : Nat} {l0 l1 l2 l3 : Option PV} {st : List PV} {M : Mem} {Q : Option PV → Mem → Prop} : WP d 66 4 [l0, l1, l2, l3] (vi 2 :: st) M Q = WP d 66 62 [l0, l1, l2, l3] (st) M Q := w_sw mC_66 d66_4 (by decide +kernel)
theorem k66_4c3 {d : Nat} {l0 l1 l2 l3 : Option PV} {st : List PV} {M : Mem} {Q : Option PV → Mem → Prop} : WP d 66 4 [l0, l1, l2, l3] (vi 3 :: st) M Q = WP d 66 74 [l0, l1, l2, l3] (st) M Q := w_sw mC_66 d66_4 (by decide +kernel)
theorem k66_4 {d : Nat} {l0 l1 l2 l3 : Option PV} {st : List PV} {M : Mem} {Q : Option PV → Mem → Prop} {x : Int32} (h : x.toInt < 0 ∨ 3 < x.toInt) : WP d 66 4 [l0, l1, l2, l3] (vi x :: st) M Q = WP d 66 84 [l0, l1, l2, l3] (st) M Q := w_swd mC_66 d66_4 (by decide) h
theorem d66_36 : decode cX9_become 36 = .ok (.aload_n 0, 1) := by decide +kernel
theorem k66_36 {d x : Nat} {l1 l2 l3 : Option PV} {st : List PV} {M : Mem} {Q : Option PV → Mem → Prop} : WP d 66 36 [some (vr x), l1, l2, l3] (st) M Q = WP d 66 37 [some (vr x), l1, l2, l3] (vr x :: st) M Q := w1 mC_66 d66_36 rfl rfl
theorem d66_37 : decode cX9_become 37 = .ok (.getfield 9, 3) := by decide +kernel
theorem k66_37 {d : Nat} {l0 l1 l2 l3 : Option PV} {st : List PV} {M : Mem} {Q : Option PV → Mem → Prop} {r : Nat} (hk : mK M r = 9) : WP d 66 37 [l0, l1, l2, l3] (vr r :: st) M Q = WP d 66 40 [l0, l1, l2, l3] (vr (mR M r 0) :: st) M Q := w_getr mC_66 d66_37 fE_9_9 rfl (by rw [hk]; rfl)
theorem d66_40 : decode cX9_become 40 = .ok (.iload_n 1, 1) := by decide +kernel
theorem k66_40 {d : Nat} {x : Int32} {l0 l2 l3 : Option PV} {st : List PV} {M : Mem} {Q : Option PV → Mem → Prop} : WP d 66 40 [l0, some (vi x), l2, l3] (st) M Q = WP d 66 41 [l0, some (vi x), l2, l3] (vi x :: st) M Q := w1 mC_66 d66_40 rfl rfl
theorem d66_41 : decode cX9_become 41 = .ok (.lload_n 2, 1) := by decide +kernel
theorem k66_41 {d : Nat} {x : Int64} {l0 l1 : Option PV} {st : List PV} {M : Mem} {Q : Option PV → Mem → Prop} : WP d 66 41 [l0, l1, some (vl x), none] (st) M Q = WP d 66 42 [l0, l1, some (vl x), none] (vl x :: st) M Q := w1 mC_66 d66_41 rfl rfl
theorem d66_42 : decode cX9_become 42 = .ok (.l2i, 1) := by decide +kernel
theorem k66_42 {d : Nat} {l0 l1 l2 l3 : Option PV} {st : List PV} {M : Mem} {Q : Option PV → Mem → Prop} {x : Int64} : WP d 66 42 [l0, l1, l2, l3] (vl x :: st) M Q = WP d 66 43 [l0, l1, l2, l3] (vi x.toInt32 :: st) M Q := w1 mC_66 d66_42 rfl rfl
theorem d66_43 : decode cX9_become 43 = .ok (.i2b, 1) := by decide +kernel
theorem k66_43 {d : Nat} {l0 l1 l2 l3 : Option PV} {st : List PV} {M : Mem} {Q : Option PV → Mem → Prop} {x : Int32} : WP d 66 43 [l0, l1, l2, l3] (vi x :: st) M Q = WP d 66 44 [l0, l1, l2, l3] (vi x.toInt8.toInt32 :: st) M Q := w1 mC_66 d66_43 rfl rfl
theorem d66_44 : decode cX9_become 44 = .ok (.i2l, 1) := by decide +kernel
theorem k66_44 {d : Nat} {l0 l1 l2 l3 : Option PV} {st : List PV} {M : Mem} {Q : Option PV → Mem → Prop} {x : Int32} : WP d 66 44 [l0, l1, l2, l3] (vi x :: st) M Q = WP d 66 45 [l0, l1, l2, l3] (vl x.toInt64 :: st) M Q := w1 mC_66 d66_44 rfl rfl
theorem d66_45 : decode cX9_become 45 = .ok (.lastore, 1) := by decide +kernel
theorem k66_45 {d : Nat} {l0 l1 l2 l3 : Option PV} {st : List PV} {M : Mem} {Q : Option PV → Mem → Prop} {r : Nat} {j : Int32} {x : Int64} (hk : mK M r = 14) (hj : inb j (mN M r)) (h1 : r ≠ 1) : WP d 66 45 [l0, l1, l2, l3] (vl x :: vi j :: vr r :: st) M Q = WP d 66 46 [l0, l1, l2, l3] (st) (sJ M r (ix j) x) Q := w_last mC_66 d66_45 hk hj h1
theorem d66_46 : decode cX9_become 46 = .ok (.goto 55, 3) := by decide +kernel
theorem k66_46 {d : Nat} {l0 l1 l2 l3 : Option PV} {st : List PV} {M : Mem} {Q : Option PV → Mem → Prop} : WP d 66 46 [l0, l1, l2, l3] (st) M Q = WP d 66 101 [l0, l1, l2, l3] (st) M Q := w_goto mC_66 d66_46 (by decide)
theorem d66_49 : decode cX9_become 49 = .ok (.aload_n 0, 1) := by decide +kernel
theorem k66_49 {d x : Nat} {l1 l2 l3 : Option PV} {st : List PV} {M : Mem} {Q : Option PV → Mem → Prop} : WP d 66 49 [some (vr x), l1, l2, l3] (st) M Q = WP d 66 50 [some (vr x), l1, l2, l3] (vr x :: st) M Q := w1 mC_66 d66_49 rfl rfl
theorem d66_50 : decode cX9_become 50 = .ok (.getfield 9, 3) := by decide +kernel
theorem k66_50 {d : Nat} {l0 l1 l2 l3 : Option PV} {st : List PV} {M : Mem} {Q : Option PV → Mem → Prop} {r : Nat} (hk : mK M r = 9) : WP d 66 50 [l0, l1, l2, l3] (vr r :: st) M Q = WP d 66 53 [l0, l1, l2, l3] (vr (mR M r 0) :: st) M Q := w_getr mC_66 d66_50 fE_9_9 rfl (by rw [hk]; rfl)
theorem d66_53 : decode cX9_become 53 = .ok (.iload_n 1, 1) := by decide +kernel
theorem k66_53 {d : Nat} {x : Int32} {l0 l2 l3 : Option PV} {st : List PV} {M : Mem} {Q : Option PV → Mem → Prop} : WP d 66 53 [l0, some (vi x), l2, l3] (st) M Q = WP d 66 54 [l0, some (vi x), l2, l3] (vi x :: st) M Q := w1 mC_66 d66_53 rfl rfl
theorem d66_54 : decode cX9_become 54 = .ok (.lload_n 2, 1) := by decide +kernel
theorem k66_54 {d : Nat} {x : Int64} {l0 l1 : Option PV} {st : List PV} {M : Mem} {Q : Option PV → Mem → Prop} : WP d 66 54 [l0, l1, some (vl x), none] (st) M Q = WP d 66 55 [l0, l1, some (vl x), none] (vl x :: st) M Q := w1 mC_66 d66_54 rfl rfl
theorem d66_55 : decode cX9_become 55 = .ok (.l2i, 1) := by decide +kernel
theorem k66_55 {d : Nat} {l0 l1 l2 l3 : Option PV} {st : List PV} {M : Mem} {Q : Option PV → Mem → Prop} {x : Int64} : WP d 66 55 [l0, l1, l2, l3] (vl x :: st) M Q = WP d 66 56 [l0, l1, l2, l3] (vi x.toInt32 :: st) M Q := w1 mC_66 d66_55 rfl rfl
theorem d66_56 : decode cX9_become 56 = .ok (.i2s, 1) := by decide +kernel
theorem k66_56 {d : Nat} {l0 l1 l2 l3 : Option PV} {st : List PV} {M : Mem} {Q : Option PV → Mem → Prop} {x : Int32} : WP d 66 56 [l0, l1, l2, l3] (vi x :: st) M Q = WP d 66 57 [l0, l1, l2, l3] (vi x.toInt16.toInt32 :: st) M Q := w1 mC_66 d66_56 rfl rfl
theorem d66_57 : decode cX9_become 57 = .ok (.i2l, 1) := by decide +kernel
theorem k66_57 {d : Nat} {l0 l1 l2 l3 : Option PV} {st : List PV} {M : Mem} {Q : Option PV → Mem → Prop} {x : Int32} : WP d 66 57 [l0, l1, l2, l3] (vi x :: st) M Q = WP d 66 58 [l0, l1, l2, l3] (vl x.toInt64 :: st) M Q := w1 mC_66 d66_57 rfl rfl
theorem d66_58 : decode cX9_become 58 = .ok (.lastore, 1) := by decide +kernel
theorem k66_58 {d : Nat} {l0 l1 l2 l3 : Option PV} {st : List PV} {M : Mem} {Q : Option PV → Mem → Prop} {r : Nat} {j : Int32} {x : Int64} (hk : mK M r = 14) (hj : inb j (mN M r)) (h1 : r ≠ 1) : WP d 66 58 [l0, l1, l2, l3] (vl x :: vi j :: vr r :: st) M Q = WP d 66 59 [l0, l1, l2, l3] (st) (sJ M r (ix j) x) Q := w_last mC_66 d66_58 hk hj h1
theorem d66_59 : decode cX9_become 59 = .ok (.goto 42, 3) := by decide +kernel
theorem k66_59 {d : Nat} {l0 l1 l2 l3 : Option PV} {st : List PV} {M : Mem} {Q : Option PV → Mem → Prop} : WP d 66 59 [l0, l1, l2, l3] (st) M Q = WP d 66 101 [l0, l1, l2, l3] (st) M Q := w_goto mC_66 d66_59 (by decide)
theorem d66_62 : decode cX9_become 62 = .ok (.aload_n 0, 1) := by decide +kernel
theorem k66_62 {d x : Nat} {l1 l2 l3 : Option PV} {st : List PV} {M : Mem} {Q : Option PV → Mem → Prop} : WP d 66 62 [some (vr x), l1, l2, l3] (st) M Q = WP d 66 63 [some (vr x), l1, l2, l3] (vr x :: st) M Q := w1 mC_66 d66_62 rfl rfl
theorem d66_63 : decode cX9_become 63 = .ok (.getfield 9, 3) := by decide +kernel
theorem k66_63 {d : Nat} {l0 l1 l2 l3 : Option PV} {st : List PV} {M : Mem} {Q : Option PV → Mem → Prop} {r : Nat} (hk : mK M r = 9) : WP d 66 63 [l0, l1, l2, l3] (vr r :: st) M Q = WP d 66 66 [l0, l1, l2, l3] (vr (mR M r 0) :: st) M Q := w_getr mC_66 d66_63 fE_9_9 rfl (by rw [hk]; rfl)
theorem d66_66 : decode cX9_become 66 = .ok (.iload_n 1, 1) := by decide +kernel
theorem k66_66 {d : Nat} {x : Int32} {l0 l2 l3 : Option PV} {st : List PV} {M : Mem} {Q : Option PV → Mem → Prop} : WP d 66 66 [l0, some (vi x), l2, l3] (st) M Q = WP d 66 67 [l0, some (vi x), l2, l3] (vi x :: st) M Q := w1 mC_66 d66_66 rfl rfl
theorem d66_67 : decode cX9_become 67 = .ok (.lload_n 2, 1) := by decide +kernel
theorem k66_67 {d : Nat} {x : Int64} {l0 l1 : Option PV} {st : List PV} {M : Mem} {Q : Option PV → Mem → Prop} : WP d 66 67 [l0, l1, some (vl x), none] (st) M Q = WP d 66 68 [l0, l1, some (vl x), none] (vl x :: st) M Q := w1 mC_66 d66_67 rfl rfl
theorem d66_68 : decode cX9_become 68 = .ok (.l2i, 1) := by decide +kernel
theorem k66_68 {d : Nat} {l0 l1 l2 l3 : Option PV} {st : List PV} {M : Mem} {Q : Option PV → Mem → Prop} {x : Int64} : WP d 66 68 [l0, l1, l2, l3] (vl x :: st) M Q = WP d 66 69 [l0, l1, l2, l3] (vi x.toInt32 :: st) M Q := w1 mC_66 d66_68 rfl rfl
theorem d66_69 : decode cX9_become 69 = .ok (.i2l, 1) := by decide +kernel
theorem k66_69 {d : Nat} {l0 l1 l2 l3 : Option PV} {st : List PV} {M : Mem} {Q : Option PV → Mem → Prop} {x : Int32} : WP d 66 69 [l0, l1, l2, l3] (vi x :: st) M Q = WP d 66 70 [l0, l1, l2, l3] (vl x.toInt64 :: st) M Q := w1 mC_66 d66_69 rfl rfl
theorem d66_70 : decode cX9_become 70 = .ok (.lastore, 1) := by decide +kernel
theorem k66_70 {d : Nat} {l0 l1 l2 l3 : Option PV} {st : List PV} {M : Mem} {Q : Option PV → Mem → Prop} {r : Nat} {j : Int32} {x : Int64} (hk : mK M r = 14) (hj : inb j (mN M r)) (h1 : r ≠ 1) : WP d 66 70 [l0, l1, l2, l3] (vl x :: vi j :: vr r :: st) M Q = WP d 66 71 [l0, l1, l2, l3] (st) (sJ M r (ix j) x) Q := w_last mC_66 d66_70 hk hj h1
theorem d66_71 : decode cX9_become 71 = .ok (.goto 30, 3) := by decide +kernel
theorem k66_71 {d : Nat} {l0 l1 l2 l3 : Option PV} {st : List PV} {M : Mem} {Q : Option PV → Mem → Prop} : WP d 66 71 [l0, l1, l2, l3] (st) M Q = WP d 66 101 [l0, l1, l2, l3] (st) M Q := w_goto mC_66 d66_71 (by decide)
theorem d66_74 : decode cX9_become 74 = .ok (.aload_n 0, 1) := by decide +kernel
theorem k66_74 {d x : Nat} {l1 l2 l3 : Option PV} {st : List PV} {M : Mem} {Q : Option PV → Mem → Prop} : WP d 66 74 [some (vr x), l1, l2, l3] (st) M Q = WP d 66 75 [some (vr x), l1, l2, l3] (vr x :: st) M Q := w1 mC_66 d66_74 rfl rfl
theorem d66_75 : decode cX9_become 75 = .ok (.getfield 9, 3) := by decide +kernel
theorem k66_75 {d : Nat} {l0 l1 l2 l3 : Option PV} {st : List PV} {M : Mem} {Q : Option PV → Mem → Prop} {r : Nat} (hk : mK M r = 9) : WP d 66 75 [l0, l1, l2, l3] (vr r :: st) M Q = WP d 66 78 [l0, l1, l2, l3] (vr (mR M r 0) :: st) M Q := w_getr mC_66 d66_75 fE_9_9 rfl (by rw [hk]; rfl)
theorem d66_78 : decode cX9_become 78 = .ok (.iload_n 1, 1) := by decide +kernel
theorem k66_78 {d : Nat} {x : Int32} {l0 l2 l3 : Option PV} {st : List PV} {M : Mem} {Q : Option PV → Mem → Prop} : WP d 66 78 [l0, some (vi x), l2, l3] (st) M Q = WP d 66 79 [l0, some (vi x), l2, l3] (vi x :: st) M Q := w1 mC_66 d66_78 rfl rfl
theorem d66_79 : decode cX9_become 79 = .ok (.lload_n 2, 1) := by decide +kernel
theorem k66_79 {d : Nat} {x : Int64} {l0 l1 : Option PV} {st : List PV} {M : Mem} {Q : Option PV → Mem → Prop} : WP d 66 79 [l0, l1, some (vl x), none] (st) M Q = WP d 66 80 [l0, l1, some (vl x), none] (vl x :: st) M Q := w1 mC_66 d66_79 rfl rfl
theorem d66_80 : decode cX9_become 80 = .ok (.lastore, 1) := by decide +kernel
theorem k66_80 {d : Nat} {l0 l1 l2 l3 : Option PV} {st : List PV} {M : Mem} {Q : Option PV → Mem → Prop} {r : Nat} {j : Int32} {x : Int64} (hk : mK M r = 14) (hj : inb j (mN M r)) (h1 : r ≠ 1) : WP d 66 80 [l0, l1, l2, l3] (vl x :: vi j :: vr r :: st) M Q = WP d 66 81 [l0, l1, l2, l3] (st) (sJ M r (ix j) x) Q := w_last mC_66 d66_80 hk hj h1
theorem d66_81 : decode cX9_become 81 = .ok (.goto 20, 3) := by decide +kernel
theorem k66_81 {d : Nat} {l0 l1 l2 l3 : Option PV} {st : List PV} {M : Mem} {Q : Option PV → Mem → Prop} : WP d 66 81 [l0, l1, l2, l3] (st) M Q = WP d 66 101 [l0, l1, l2, l3] (st) M Q := w_goto mC_66 d66_81 (by decide)
theorem d66_84 : decode cX9_become 84 = .ok (.aload_n 0, 1) := by decide +kernel
theorem k66_84 {d x : Nat} {l1 l2 l3 : Option PV} {st : List PV} {M : Mem} {Q : Option PV → Mem → Prop} : WP d 66 84 [some (vr x), l1, l2, l3] (st) M Q = WP d 66 85 [some (vr x), l1, l2, l3] (vr x :: st) M Q := w1 mC_66 d66_84 rfl rfl
theorem d66_85 : decode cX9_become 85 = .ok (.getfield 9, 3) := by decide +kernel
theorem k66_85 {d : Nat} {l0 l1 l2 l3 : Option PV} {st : List PV} {M : Mem} {Q : Option PV → Mem → Prop} {r : Nat} (hk : mK M r = 9) : WP d 66 85 [l0, l1, l2, l3] (vr r :: st) M Q = WP d 66 88 [l0, l1, l2, l3] (vr (mR M r 0) :: st) M Q := w_getr mC_66 d66_85 fE_9_9 rfl (by rw [hk]; rfl)
theorem d66_88 : decode cX9_become 88 = .ok (.iload_n 1, 1) := by decide +kernel
theorem k66_88 {d : Nat} {x : Int32} {l0 l2 l3 : Option PV} {st : List PV} {M : Mem} {Q : Option PV → Mem → Prop} : WP d 66 88 [l0, some (vi x), l2, l3] (st) M Q = WP d 66 89 [l0, some (vi x), l2, l3] (vi x :: st) M Q := w1 mC_66 d66_88 rfl rfl
theorem d66_89 : decode cX9_become 89 = .ok (.lload_n 2, 1) := by decide +kernel
theorem k66_89 {d : Nat} {x : Int64} {l0 l1 : Option PV} {st : List PV} {M : Mem} {Q : Option PV → Mem → Prop} : WP d 66 89 [l0, l1, some (vl x), none] (st) M Q = WP d 66 90 [l0, l1, some (vl x), none] (vl x :: st) M Q := w1 mC_66 d66_89 rfl rfl
theorem d66_90 : decode cX9_become 90 = .ok (.lconst 0, 1) := by decide +kernel
theorem k66_90 {d : Nat} {l0 l1 l2 l3 : Option PV} {st : List PV} {M : Mem} {Q : Option PV → Mem → Prop} : WP d 66 90 [l0, l1, l2, l3] (st) M Q = WP d 66 91 [l0, l1, l2, l3] (vl 0 :: st) M Q := w_lconst mC_66 d66_90 (by decide)
theorem d66_91 : decode cX9_become 91 = .ok (.lcmp, 1) := by decide +kernel
theorem k66_91 {d : Nat} {l0 l1 l2 l3 : Option PV} {st : List PV} {M : Mem} {Q : Option PV → Mem → Prop} {x y : Int64} : WP d 66 91 [l0, l1, l2, l3] (vl y :: vl x :: st) M Q = WP d 66 92 [l0, l1, l2, l3] (vi (lg_cmp x y) :: st) M Q := w1 mC_66 d66_91 rfl rfl
theorem d66_92 : decode cX9_become 92 = .ok (.ifCond .eq 7, 3) := by decide +kernel
theorem k66_92 {d : Nat} {l0 l1 l2 l3 : Option PV} {st : List PV} {M : Mem} {Q : Option PV → Mem → Prop} {x : Int32} : WP d 66 92 [l0, l1, l2, l3] (vi x :: st) M Q = (if x = 0 then WP d 66 99 [l0, l1, l2, l3] (st) M Q else WP d 66 95 [l0, l1, l2, l3] (st) M Q) := w_if_eq mC_66 d66_92 (by decide)
theorem d66_95 : decode cX9_become 95 = .ok (.lconst 1, 1) := by decide +kernel
theorem k66_95 {d : Nat} {l0 l1 l2 l3 : Option PV} {st : List PV} {M : Mem} {Q : Option PV → Mem → Prop} : WP d 66 95 [l0, l1, l2, l3] (st) M Q = WP d 66 96 [l0, l1, l2, l3] (vl 1 :: st) M Q := w_lconst mC_66 d66_95 (by decide)
theorem d66_96 : decode cX9_become 96 = .ok (.goto 4, 3) := by decide +kernel
theorem k66_96 {d : Nat} {l0 l1 l2 l3 : Option PV} {st : List PV} {M : Mem} {Q : Option PV → Mem → Prop} : WP d 66 96 [l0, l1, l2, l3] (st) M Q = WP d 66 100 [l0, l1, l2, l3] (st) M Q := w_goto mC_66 d66_96 (by decide)
theorem d66_99 : decode cX9_become 99 = .ok (.lconst 0, 1) := by decide +kernel
theorem k66_99 {d : Nat} {l0 l1 l2 l3 : Option PV} {st : List PV} {M : Mem} {Q : Option PV → Mem → Prop} : WP d 66 99 [l0, l1, l2, l3] (st) M Q = WP d 66 100 [l0, l1, l2, l3] (vl 0 :: st) M Q := w_lconst mC_66 d66_99 (by decide)
theorem d66_100 : decode cX9_become 100 = .ok (.lastore, 1) := by decide +kernel
theorem k66_100 {d : Nat} {l0 l1 l2 l3 : Option PV} {st : List PV} {M : Mem} {Q : Option PV → Mem → Prop} {r : Nat} {j : Int32} {x : Int64} (hk : mK M r = 14) (hj : inb j (mN M r)) (h1 : r ≠ 1) : WP d 66 100 [l0, l1, l2, l3] (vl x :: vi j :: vr r :: st) M Q = WP d 66 101 [l0, l1, l2, l3] (st) (sJ M r (ix j) x) Q := w_last mC_66 d66_100 hk hj h1
theorem d66_101 : decode cX9_become 101 = .ok (.return_, 1) := by decide +kernel
theorem k66_101 {d : Nat} {l0 l1 l2 l3 : Option PV} {M : Mem} {Q : Option PV → Mem → Prop} : WP d 66 101 [l0, l1, l2, l3] ([]) M Q = Q none M := w_vret mC_66 d66_101 rfl
