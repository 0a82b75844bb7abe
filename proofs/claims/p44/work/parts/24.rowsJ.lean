/-! step rows, by program (wip/p44/gen_rows.py) -/
theorem d147_0 : decode cJ5_init_d00df 0 = .ok (.aload_n 0, 1) := by decide +kernel
theorem k147_0 {d x : Nat} {l1 : Option PV} {st : List PV} {M : Mem} {Q : Option PV → Mem → Prop} : WP d 147 0 [some (vr x), l1] (st) M Q = WP d 147 1 [some (vr x), l1] (vr x :: st) M Q := w1 mC_147 d147_0 rfl rfl
theorem d147_1 : decode cJ5_init_d00df 1 = .ok (.invokespecial 3, 3) := by decide +kernel
theorem k147_1 {d : Nat} {l0 l1 : Option PV} {st : List PV} {M : Mem} {Q : Option PV → Mem → Prop} {r : Nat} (hl : szL st ≤ 8) (hk : mK M r < 13) : WP d 147 1 [l0, l1] (vr r :: st) M Q = WP d 147 4 [l0, l1] (st) M Q := w_oi mC_147 d147_1 rfl rfl rfl rfl hl hk
theorem d147_4 : decode cJ5_init_d00df 4 = .ok (.getstatic 18, 3) := by decide +kernel
theorem k147_4 {d : Nat} {l0 l1 : Option PV} {st : List PV} {M : Mem} {Q : Option PV → Mem → Prop} : WP d 147 4 [l0, l1] (st) M Q = WP d 147 7 [l0, l1] (vi 1 :: st) M Q := w_gets0 mC_147 d147_4 rfl
theorem d147_7 : decode cJ5_init_d00df 7 = .ok (.ifCond .eq 18, 3) := by decide +kernel
theorem k147_7 {d : Nat} {l0 l1 : Option PV} {st : List PV} {M : Mem} {Q : Option PV → Mem → Prop} {x : Int32} : WP d 147 7 [l0, l1] (vi x :: st) M Q = (if x = 0 then WP d 147 25 [l0, l1] (st) M Q else WP d 147 10 [l0, l1] (st) M Q) := w_if_eq mC_147 d147_7 (by decide)
theorem d147_10 : decode cJ5_init_d00df 10 = .ok (.aload_n 0, 1) := by decide +kernel
theorem k147_10 {d x : Nat} {l1 : Option PV} {st : List PV} {M : Mem} {Q : Option PV → Mem → Prop} : WP d 147 10 [some (vr x), l1] (st) M Q = WP d 147 11 [some (vr x), l1] (vr x :: st) M Q := w1 mC_147 d147_10 rfl rfl
theorem d147_11 : decode cJ5_init_d00df 11 = .ok (.iload_n 1, 1) := by decide +kernel
theorem k147_11 {d : Nat} {x : Int32} {l0 : Option PV} {st : List PV} {M : Mem} {Q : Option PV → Mem → Prop} : WP d 147 11 [l0, some (vi x)] (st) M Q = WP d 147 12 [l0, some (vi x)] (vi x :: st) M Q := w1 mC_147 d147_11 rfl rfl
theorem d147_12 : decode cJ5_init_d00df 12 = .ok (.newarray .byte, 2) := by decide +kernel
theorem k147_12 {d : Nat} {l0 l1 : Option PV} {st : List PV} {M : Mem} {Q : Option PV → Mem → Prop} {x : Int32} (hx : ¬ x < 0 ∧ ix x ≤ 100000) : WP d 147 12 [l0, l1] (vi x :: st) M Q = WP d 147 14 [l0, l1] (vr (mX M) :: st) (nw M 18 (ix x) (ix x)) Q := w_nwb mC_147 d147_12 hx
theorem d147_14 : decode cJ5_init_d00df 14 = .ok (.putfield 15, 3) := by decide +kernel
theorem k147_14 {d : Nat} {l0 l1 : Option PV} {st : List PV} {M : Mem} {Q : Option PV → Mem → Prop} {r q : Nat} (hk : mK M r = 0) : WP d 147 14 [l0, l1] (vr q :: vr r :: st) M Q = WP d 147 17 [l0, l1] (st) (sR M r 0 q) Q := w_putr mC_147 d147_14 fE_14_15 (by decide +kernel) (by rw [hk]; rfl)
theorem d147_17 : decode cJ5_init_d00df 17 = .ok (.aload_n 0, 1) := by decide +kernel
theorem k147_17 {d x : Nat} {l1 : Option PV} {st : List PV} {M : Mem} {Q : Option PV → Mem → Prop} : WP d 147 17 [some (vr x), l1] (st) M Q = WP d 147 18 [some (vr x), l1] (vr x :: st) M Q := w1 mC_147 d147_17 rfl rfl
theorem d147_18 : decode cJ5_init_d00df 18 = .ok (.iconst 0, 1) := by decide +kernel
theorem k147_18 {d : Nat} {l0 l1 : Option PV} {st : List PV} {M : Mem} {Q : Option PV → Mem → Prop} : WP d 147 18 [l0, l1] (st) M Q = WP d 147 19 [l0, l1] (vi 0 :: st) M Q := w_iconst mC_147 d147_18 (by decide)
theorem d147_19 : decode cJ5_init_d00df 19 = .ok (.putfield 22, 3) := by decide +kernel
theorem k147_19 {d : Nat} {l0 l1 : Option PV} {st : List PV} {M : Mem} {Q : Option PV → Mem → Prop} {r : Nat} {x : Int32} (hk : mK M r = 0) (hx : byV x = x) : WP d 147 19 [l0, l1] (vi x :: vr r :: st) M Q = WP d 147 22 [l0, l1] (st) (sI M r 1 x) Q := w_putB mC_147 d147_19 fE_14_22 (by decide +kernel) (by rw [hk]; rfl) hx
theorem d147_22 : decode cJ5_init_d00df 22 = .ok (.goto 16, 3) := by decide +kernel
theorem k147_22 {d : Nat} {l0 l1 : Option PV} {st : List PV} {M : Mem} {Q : Option PV → Mem → Prop} : WP d 147 22 [l0, l1] (st) M Q = WP d 147 38 [l0, l1] (st) M Q := w_goto mC_147 d147_22 (by decide)
theorem d147_25 : decode cJ5_init_d00df 25 = .ok (.aload_n 0, 1) := by decide +kernel
theorem k147_25 {d x : Nat} {l1 : Option PV} {st : List PV} {M : Mem} {Q : Option PV → Mem → Prop} : WP d 147 25 [some (vr x), l1] (st) M Q = WP d 147 26 [some (vr x), l1] (vr x :: st) M Q := w1 mC_147 d147_25 rfl rfl
theorem d147_26 : decode cJ5_init_d00df 26 = .ok (.iload_n 1, 1) := by decide +kernel
theorem k147_26 {d : Nat} {x : Int32} {l0 : Option PV} {st : List PV} {M : Mem} {Q : Option PV → Mem → Prop} : WP d 147 26 [l0, some (vi x)] (st) M Q = WP d 147 27 [l0, some (vi x)] (vi x :: st) M Q := w1 mC_147 d147_26 rfl rfl
theorem d147_30 : decode cJ5_init_d00df 30 = .ok (.putfield 15, 3) := by decide +kernel
theorem k147_30 {d : Nat} {l0 l1 : Option PV} {st : List PV} {M : Mem} {Q : Option PV → Mem → Prop} {r q : Nat} (hk : mK M r = 0) : WP d 147 30 [l0, l1] (vr q :: vr r :: st) M Q = WP d 147 33 [l0, l1] (st) (sR M r 0 q) Q := w_putr mC_147 d147_30 fE_14_15 (by decide +kernel) (by rw [hk]; rfl)
theorem d147_33 : decode cJ5_init_d00df 33 = .ok (.aload_n 0, 1) := by decide +kernel
theorem k147_33 {d x : Nat} {l1 : Option PV} {st : List PV} {M : Mem} {Q : Option PV → Mem → Prop} : WP d 147 33 [some (vr x), l1] (st) M Q = WP d 147 34 [some (vr x), l1] (vr x :: st) M Q := w1 mC_147 d147_33 rfl rfl
theorem d147_34 : decode cJ5_init_d00df 34 = .ok (.iconst 1, 1) := by decide +kernel
theorem k147_34 {d : Nat} {l0 l1 : Option PV} {st : List PV} {M : Mem} {Q : Option PV → Mem → Prop} : WP d 147 34 [l0, l1] (st) M Q = WP d 147 35 [l0, l1] (vi 1 :: st) M Q := w_iconst mC_147 d147_34 (by decide)
theorem d147_35 : decode cJ5_init_d00df 35 = .ok (.putfield 22, 3) := by decide +kernel
theorem k147_35 {d : Nat} {l0 l1 : Option PV} {st : List PV} {M : Mem} {Q : Option PV → Mem → Prop} {r : Nat} {x : Int32} (hk : mK M r = 0) (hx : byV x = x) : WP d 147 35 [l0, l1] (vi x :: vr r :: st) M Q = WP d 147 38 [l0, l1] (st) (sI M r 1 x) Q := w_putB mC_147 d147_35 fE_14_22 (by decide +kernel) (by rw [hk]; rfl) hx
theorem d147_38 : decode cJ5_init_d00df 38 = .ok (.return_, 1) := by decide +kernel
theorem k147_38 {d : Nat} {l0 l1 : Option PV} {M : Mem} {Q : Option PV → Mem → Prop} : WP d 147 38 [l0, l1] ([]) M Q = Q none M := w_vret mC_147 d147_38 rfl
theorem d148_0 : decode cJ5_length_8abf5 0 = .ok (.aload_n 0, 1) := by decide +kernel
theorem k148_0 {d x : Nat} {st : List PV} {M : Mem} {Q : Option PV → Mem → Prop} : WP d 148 0 [some (vr x)] (st) M Q = WP d 148 1 [some (vr x)] (vr x :: st) M Q := w1 mC_148 d148_0 rfl rfl
theorem d148_1 : decode cJ5_length_8abf5 1 = .ok (.getfield 79, 3) := by decide +kernel
theorem k148_1 {d : Nat} {l0 : Option PV} {st : List PV} {M : Mem} {Q : Option PV → Mem → Prop} {r : Nat} (hk : mK M r = 0) : WP d 148 1 [l0] (vr r :: st) M Q = WP d 148 4 [l0] (vi (mI M r 3) :: st) M Q := w_get mC_148 d148_1 fE_14_79 rfl (by rw [hk]; rfl)
theorem d148_4 : decode cJ5_length_8abf5 4 = .ok (.ireturn, 1) := by decide +kernel
theorem k148_4 {d : Nat} {l0 : Option PV} {M : Mem} {Q : Option PV → Mem → Prop} {x : Int32} : WP d 148 4 [l0] ([vi x]) M Q = Q (some (vi x)) M := w_iret mC_148 d148_4 rfl
theorem d149_0 : decode cJ5_ensureCapacityInternal_d00df 0 = .ok (.aload_n 0, 1) := by decide +kernel
theorem k149_0 {d x : Nat} {l1 l2 : Option PV} {st : List PV} {M : Mem} {Q : Option PV → Mem → Prop} : WP d 149 0 [some (vr x), l1, l2] (st) M Q = WP d 149 1 [some (vr x), l1, l2] (vr x :: st) M Q := w1 mC_149 d149_0 rfl rfl
theorem d149_1 : decode cJ5_ensureCapacityInternal_d00df 1 = .ok (.getfield 15, 3) := by decide +kernel
theorem k149_1 {d : Nat} {l0 l1 l2 : Option PV} {st : List PV} {M : Mem} {Q : Option PV → Mem → Prop} {r : Nat} (hk : mK M r = 0) : WP d 149 1 [l0, l1, l2] (vr r :: st) M Q = WP d 149 4 [l0, l1, l2] (vr (mR M r 0) :: st) M Q := w_getr mC_149 d149_1 fE_14_15 rfl (by rw [hk]; rfl)
theorem d149_4 : decode cJ5_ensureCapacityInternal_d00df 4 = .ok (.arraylength, 1) := by decide +kernel
theorem k149_4 {d : Nat} {l0 l1 l2 : Option PV} {st : List PV} {M : Mem} {Q : Option PV → Mem → Prop} {r : Nat} (hk : 13 ≤ mK M r ∧ mK M r ≤ 19) : WP d 149 4 [l0, l1, l2] (vr r :: st) M Q = WP d 149 5 [l0, l1, l2] (vi (Int32.ofNat (mN M r)) :: st) M Q := w_alen mC_149 d149_4 hk
theorem d149_5 : decode cJ5_ensureCapacityInternal_d00df 5 = .ok (.aload_n 0, 1) := by decide +kernel
theorem k149_5 {d x : Nat} {l1 l2 : Option PV} {st : List PV} {M : Mem} {Q : Option PV → Mem → Prop} : WP d 149 5 [some (vr x), l1, l2] (st) M Q = WP d 149 6 [some (vr x), l1, l2] (vr x :: st) M Q := w1 mC_149 d149_5 rfl rfl
theorem d149_6 : decode cJ5_ensureCapacityInternal_d00df 6 = .ok (.getfield 22, 3) := by decide +kernel
theorem k149_6 {d : Nat} {l0 l1 l2 : Option PV} {st : List PV} {M : Mem} {Q : Option PV → Mem → Prop} {r : Nat} (hk : mK M r = 0) : WP d 149 6 [l0, l1, l2] (vr r :: st) M Q = WP d 149 9 [l0, l1, l2] (vi (mI M r 1) :: st) M Q := w_get mC_149 d149_6 fE_14_22 rfl (by rw [hk]; rfl)
theorem d149_9 : decode cJ5_ensureCapacityInternal_d00df 9 = .ok (.ishr, 1) := by decide +kernel
theorem k149_9 {d : Nat} {l0 l1 l2 : Option PV} {st : List PV} {M : Mem} {Q : Option PV → Mem → Prop} {x y : Int32} : WP d 149 9 [l0, l1, l2] (vi y :: vi x :: st) M Q = WP d 149 10 [l0, l1, l2] (vi (x >>> (y &&& 31)) :: st) M Q := w1 mC_149 d149_9 rfl rfl
theorem d149_10 : decode cJ5_ensureCapacityInternal_d00df 10 = .ok (.istore_n 2, 1) := by decide +kernel
theorem k149_10 {d : Nat} {l0 l1 l2 : Option PV} {st : List PV} {M : Mem} {Q : Option PV → Mem → Prop} {x : Int32} : WP d 149 10 [l0, l1, l2] (vi x :: st) M Q = WP d 149 11 [l0, l1, some (vi x)] (st) M Q := w1 mC_149 d149_10 rfl rfl
theorem d149_11 : decode cJ5_ensureCapacityInternal_d00df 11 = .ok (.iload_n 1, 1) := by decide +kernel
theorem k149_11 {d : Nat} {x : Int32} {l0 l2 : Option PV} {st : List PV} {M : Mem} {Q : Option PV → Mem → Prop} : WP d 149 11 [l0, some (vi x), l2] (st) M Q = WP d 149 12 [l0, some (vi x), l2] (vi x :: st) M Q := w1 mC_149 d149_11 rfl rfl
theorem d149_12 : decode cJ5_ensureCapacityInternal_d00df 12 = .ok (.iload_n 2, 1) := by decide +kernel
theorem k149_12 {d : Nat} {x : Int32} {l0 l1 : Option PV} {st : List PV} {M : Mem} {Q : Option PV → Mem → Prop} : WP d 149 12 [l0, l1, some (vi x)] (st) M Q = WP d 149 13 [l0, l1, some (vi x)] (vi x :: st) M Q := w1 mC_149 d149_12 rfl rfl
theorem d149_13 : decode cJ5_ensureCapacityInternal_d00df 13 = .ok (.isub, 1) := by decide +kernel
theorem k149_13 {d : Nat} {l0 l1 l2 : Option PV} {st : List PV} {M : Mem} {Q : Option PV → Mem → Prop} {x y : Int32} : WP d 149 13 [l0, l1, l2] (vi y :: vi x :: st) M Q = WP d 149 14 [l0, l1, l2] (vi (x - y) :: st) M Q := w1 mC_149 d149_13 rfl rfl
theorem d149_14 : decode cJ5_ensureCapacityInternal_d00df 14 = .ok (.ifCond .le 24, 3) := by decide +kernel
theorem k149_14 {d : Nat} {l0 l1 l2 : Option PV} {st : List PV} {M : Mem} {Q : Option PV → Mem → Prop} {x : Int32} : WP d 149 14 [l0, l1, l2] (vi x :: st) M Q = (if x ≤ 0 then WP d 149 38 [l0, l1, l2] (st) M Q else WP d 149 17 [l0, l1, l2] (st) M Q) := w_if_le mC_149 d149_14 (by decide)
theorem d149_17 : decode cJ5_ensureCapacityInternal_d00df 17 = .ok (.aload_n 0, 1) := by decide +kernel
theorem k149_17 {d x : Nat} {l1 l2 : Option PV} {st : List PV} {M : Mem} {Q : Option PV → Mem → Prop} : WP d 149 17 [some (vr x), l1, l2] (st) M Q = WP d 149 18 [some (vr x), l1, l2] (vr x :: st) M Q := w1 mC_149 d149_17 rfl rfl
theorem d149_18 : decode cJ5_ensureCapacityInternal_d00df 18 = .ok (.aload_n 0, 1) := by decide +kernel
theorem k149_18 {d x : Nat} {l1 l2 : Option PV} {st : List PV} {M : Mem} {Q : Option PV → Mem → Prop} : WP d 149 18 [some (vr x), l1, l2] (st) M Q = WP d 149 19 [some (vr x), l1, l2] (vr x :: st) M Q := w1 mC_149 d149_18 rfl rfl
theorem d149_19 : decode cJ5_ensureCapacityInternal_d00df 19 = .ok (.getfield 15, 3) := by decide +kernel
theorem k149_19 {d : Nat} {l0 l1 l2 : Option PV} {st : List PV} {M : Mem} {Q : Option PV → Mem → Prop} {r : Nat} (hk : mK M r = 0) : WP d 149 19 [l0, l1, l2] (vr r :: st) M Q = WP d 149 22 [l0, l1, l2] (vr (mR M r 0) :: st) M Q := w_getr mC_149 d149_19 fE_14_15 rfl (by rw [hk]; rfl)
theorem d149_22 : decode cJ5_ensureCapacityInternal_d00df 22 = .ok (.aload_n 0, 1) := by decide +kernel
theorem k149_22 {d x : Nat} {l1 l2 : Option PV} {st : List PV} {M : Mem} {Q : Option PV → Mem → Prop} : WP d 149 22 [some (vr x), l1, l2] (st) M Q = WP d 149 23 [some (vr x), l1, l2] (vr x :: st) M Q := w1 mC_149 d149_22 rfl rfl
theorem d149_23 : decode cJ5_ensureCapacityInternal_d00df 23 = .ok (.iload_n 1, 1) := by decide +kernel
theorem k149_23 {d : Nat} {x : Int32} {l0 l2 : Option PV} {st : List PV} {M : Mem} {Q : Option PV → Mem → Prop} : WP d 149 23 [l0, some (vi x), l2] (st) M Q = WP d 149 24 [l0, some (vi x), l2] (vi x :: st) M Q := w1 mC_149 d149_23 rfl rfl
theorem d149_24 : decode cJ5_ensureCapacityInternal_d00df 24 = .ok (.invokevirtual 104, 3) := by decide +kernel
theorem k149_24 {d : Nat} {l0 l1 l2 : Option PV} {st : List PV} {M : Mem} {Q : Option PV → Mem → Prop} {a0 : Int32} {r : Nat} (hl : szL st ≤ 8) (hk : mK M r = 0) : WP (d + 1) 149 24 [l0, l1, l2] (vi a0 :: vr r :: st) M Q = WP d 150 0 [some (vr r), some (vi a0), none, none, none, none] [] M (fun v M' => WP (d + 1) 149 27 [l0, l1, l2] (psh v st) M' Q) := w_callV mC_149 d149_24 (ci := 0) rfl rfl rfl (Nat.le_of_ble_eq_true rfl) (by decide) rfl hl (Or.inl hk)
theorem d149_27 : decode cJ5_ensureCapacityInternal_d00df 27 = .ok (.aload_n 0, 1) := by decide +kernel
theorem k149_27 {d x : Nat} {l1 l2 : Option PV} {st : List PV} {M : Mem} {Q : Option PV → Mem → Prop} : WP d 149 27 [some (vr x), l1, l2] (st) M Q = WP d 149 28 [some (vr x), l1, l2] (vr x :: st) M Q := w1 mC_149 d149_27 rfl rfl
theorem d149_28 : decode cJ5_ensureCapacityInternal_d00df 28 = .ok (.getfield 22, 3) := by decide +kernel
theorem k149_28 {d : Nat} {l0 l1 l2 : Option PV} {st : List PV} {M : Mem} {Q : Option PV → Mem → Prop} {r : Nat} (hk : mK M r = 0) : WP d 149 28 [l0, l1, l2] (vr r :: st) M Q = WP d 149 31 [l0, l1, l2] (vi (mI M r 1) :: st) M Q := w_get mC_149 d149_28 fE_14_22 rfl (by rw [hk]; rfl)
theorem d149_31 : decode cJ5_ensureCapacityInternal_d00df 31 = .ok (.ishl, 1) := by decide +kernel
theorem k149_31 {d : Nat} {l0 l1 l2 : Option PV} {st : List PV} {M : Mem} {Q : Option PV → Mem → Prop} {x y : Int32} : WP d 149 31 [l0, l1, l2] (vi y :: vi x :: st) M Q = WP d 149 32 [l0, l1, l2] (vi (x <<< (y &&& 31)) :: st) M Q := w1 mC_149 d149_31 rfl rfl
theorem d149_32 : decode cJ5_ensureCapacityInternal_d00df 32 = .ok (.invokestatic 108, 3) := by decide +kernel
theorem k149_32 {d : Nat} {l0 l1 l2 : Option PV} {st : List PV} {M : Mem} {Q : Option PV → Mem → Prop} {a1 : Int32} {a0 : Nat} (hl : szL st ≤ 8) : WP (d + 1) 149 32 [l0, l1, l2] (vi a1 :: vr a0 :: st) M Q = WP d 176 0 [some (vr a0), some (vi a1), none] [] M (fun v M' => WP (d + 1) 149 35 [l0, l1, l2] (psh v st) M' Q) := w_callS mC_149 d149_32 rfl rfl (Nat.le_of_ble_eq_true rfl) (by decide) rfl hl
theorem d149_35 : decode cJ5_ensureCapacityInternal_d00df 35 = .ok (.putfield 15, 3) := by decide +kernel
theorem k149_35 {d : Nat} {l0 l1 l2 : Option PV} {st : List PV} {M : Mem} {Q : Option PV → Mem → Prop} {r q : Nat} (hk : mK M r = 0) : WP d 149 35 [l0, l1, l2] (vr q :: vr r :: st) M Q = WP d 149 38 [l0, l1, l2] (st) (sR M r 0 q) Q := w_putr mC_149 d149_35 fE_14_15 (by decide +kernel) (by rw [hk]; rfl)
theorem d149_38 : decode cJ5_ensureCapacityInternal_d00df 38 = .ok (.return_, 1) := by decide +kernel
theorem k149_38 {d : Nat} {l0 l1 l2 : Option PV} {M : Mem} {Q : Option PV → Mem → Prop} : WP d 149 38 [l0, l1, l2] ([]) M Q = Q none M := w_vret mC_149 d149_38 rfl
theorem d150_0 : decode cJ5_newCapacity_0f7a4 0 = .ok (.aload_n 0, 1) := by decide +kernel
theorem k150_0 {d x : Nat} {l1 l2 l3 l4 l5 : Option PV} {st : List PV} {M : Mem} {Q : Option PV → Mem → Prop} : WP d 150 0 [some (vr x), l1, l2, l3, l4, l5] (st) M Q = WP d 150 1 [some (vr x), l1, l2, l3, l4, l5] (vr x :: st) M Q := w1 mC_150 d150_0 rfl rfl
theorem d150_1 : decode cJ5_newCapacity_0f7a4 1 = .ok (.getfield 15, 3) := by decide +kernel
theorem k150_1 {d : Nat} {l0 l1 l2 l3 l4 l5 : Option PV} {st : List PV} {M : Mem} {Q : Option PV → Mem → Prop} {r : Nat} (hk : mK M r = 0) : WP d 150 1 [l0, l1, l2, l3, l4, l5] (vr r :: st) M Q = WP d 150 4 [l0, l1, l2, l3, l4, l5] (vr (mR M r 0) :: st) M Q := w_getr mC_150 d150_1 fE_14_15 rfl (by rw [hk]; rfl)
theorem d150_4 : decode cJ5_newCapacity_0f7a4 4 = .ok (.arraylength, 1) := by decide +kernel
theorem k150_4 {d : Nat} {l0 l1 l2 l3 l4 l5 : Option PV} {st : List PV} {M : Mem} {Q : Option PV → Mem → Prop} {r : Nat} (hk : 13 ≤ mK M r ∧ mK M r ≤ 19) : WP d 150 4 [l0, l1, l2, l3, l4, l5] (vr r :: st) M Q = WP d 150 5 [l0, l1, l2, l3, l4, l5] (vi (Int32.ofNat (mN M r)) :: st) M Q := w_alen mC_150 d150_4 hk
theorem d150_5 : decode cJ5_newCapacity_0f7a4 5 = .ok (.istore_n 2, 1) := by decide +kernel
theorem k150_5 {d : Nat} {l0 l1 l2 l3 l4 l5 : Option PV} {st : List PV} {M : Mem} {Q : Option PV → Mem → Prop} {x : Int32} : WP d 150 5 [l0, l1, l2, l3, l4, l5] (vi x :: st) M Q = WP d 150 6 [l0, l1, some (vi x), l3, l4, l5] (st) M Q := w1 mC_150 d150_5 rfl rfl
theorem d150_6 : decode cJ5_newCapacity_0f7a4 6 = .ok (.iload_n 1, 1) := by decide +kernel
theorem k150_6 {d : Nat} {x : Int32} {l0 l2 l3 l4 l5 : Option PV} {st : List PV} {M : Mem} {Q : Option PV → Mem → Prop} : WP d 150 6 [l0, some (vi x), l2, l3, l4, l5] (st) M Q = WP d 150 7 [l0, some (vi x), l2, l3, l4, l5] (vi x :: st) M Q := w1 mC_150 d150_6 rfl rfl
theorem d150_7 : decode cJ5_newCapacity_0f7a4 7 = .ok (.aload_n 0, 1) := by decide +kernel
theorem k150_7 {d x : Nat} {l1 l2 l3 l4 l5 : Option PV} {st : List PV} {M : Mem} {Q : Option PV → Mem → Prop} : WP d 150 7 [some (vr x), l1, l2, l3, l4, l5] (st) M Q = WP d 150 8 [some (vr x), l1, l2, l3, l4, l5] (vr x :: st) M Q := w1 mC_150 d150_7 rfl rfl
theorem d150_8 : decode cJ5_newCapacity_0f7a4 8 = .ok (.getfield 22, 3) := by decide +kernel
theorem k150_8 {d : Nat} {l0 l1 l2 l3 l4 l5 : Option PV} {st : List PV} {M : Mem} {Q : Option PV → Mem → Prop} {r : Nat} (hk : mK M r = 0) : WP d 150 8 [l0, l1, l2, l3, l4, l5] (vr r :: st) M Q = WP d 150 11 [l0, l1, l2, l3, l4, l5] (vi (mI M r 1) :: st) M Q := w_get mC_150 d150_8 fE_14_22 rfl (by rw [hk]; rfl)
theorem d150_11 : decode cJ5_newCapacity_0f7a4 11 = .ok (.ishl, 1) := by decide +kernel
theorem k150_11 {d : Nat} {l0 l1 l2 l3 l4 l5 : Option PV} {st : List PV} {M : Mem} {Q : Option PV → Mem → Prop} {x y : Int32} : WP d 150 11 [l0, l1, l2, l3, l4, l5] (vi y :: vi x :: st) M Q = WP d 150 12 [l0, l1, l2, l3, l4, l5] (vi (x <<< (y &&& 31)) :: st) M Q := w1 mC_150 d150_11 rfl rfl
theorem d150_12 : decode cJ5_newCapacity_0f7a4 12 = .ok (.istore_n 3, 1) := by decide +kernel
theorem k150_12 {d : Nat} {l0 l1 l2 l3 l4 l5 : Option PV} {st : List PV} {M : Mem} {Q : Option PV → Mem → Prop} {x : Int32} : WP d 150 12 [l0, l1, l2, l3, l4, l5] (vi x :: st) M Q = WP d 150 13 [l0, l1, l2, some (vi x), l4, l5] (st) M Q := w1 mC_150 d150_12 rfl rfl
theorem d150_13 : decode cJ5_newCapacity_0f7a4 13 = .ok (.iload_n 3, 1) := by decide +kernel
theorem k150_13 {d : Nat} {x : Int32} {l0 l1 l2 l4 l5 : Option PV} {st : List PV} {M : Mem} {Q : Option PV → Mem → Prop} : WP d 150 13 [l0, l1, l2, some (vi x), l4, l5] (st) M Q = WP d 150 14 [l0, l1, l2, some (vi x), l4, l5] (vi x :: st) M Q := w1 mC_150 d150_13 rfl rfl
theorem d150_14 : decode cJ5_newCapacity_0f7a4 14 = .ok (.iload_n 2, 1) := by decide +kernel
theorem k150_14 {d : Nat} {x : Int32} {l0 l1 l3 l4 l5 : Option PV} {st : List PV} {M : Mem} {Q : Option PV → Mem → Prop} : WP d 150 14 [l0, l1, some (vi x), l3, l4, l5] (st) M Q = WP d 150 15 [l0, l1, some (vi x), l3, l4, l5] (vi x :: st) M Q := w1 mC_150 d150_14 rfl rfl
theorem d150_15 : decode cJ5_newCapacity_0f7a4 15 = .ok (.isub, 1) := by decide +kernel
theorem k150_15 {d : Nat} {l0 l1 l2 l3 l4 l5 : Option PV} {st : List PV} {M : Mem} {Q : Option PV → Mem → Prop} {x y : Int32} : WP d 150 15 [l0, l1, l2, l3, l4, l5] (vi y :: vi x :: st) M Q = WP d 150 16 [l0, l1, l2, l3, l4, l5] (vi (x - y) :: st) M Q := w1 mC_150 d150_15 rfl rfl
theorem d150_16 : decode cJ5_newCapacity_0f7a4 16 = .ok (.istore 4, 2) := by decide +kernel
theorem k150_16 {d : Nat} {l0 l1 l2 l3 l4 l5 : Option PV} {st : List PV} {M : Mem} {Q : Option PV → Mem → Prop} {x : Int32} : WP d 150 16 [l0, l1, l2, l3, l4, l5] (vi x :: st) M Q = WP d 150 18 [l0, l1, l2, l3, some (vi x), l5] (st) M Q := w1 mC_150 d150_16 rfl rfl
theorem d150_18 : decode cJ5_newCapacity_0f7a4 18 = .ok (.iload_n 2, 1) := by decide +kernel
theorem k150_18 {d : Nat} {x : Int32} {l0 l1 l3 l4 l5 : Option PV} {st : List PV} {M : Mem} {Q : Option PV → Mem → Prop} : WP d 150 18 [l0, l1, some (vi x), l3, l4, l5] (st) M Q = WP d 150 19 [l0, l1, some (vi x), l3, l4, l5] (vi x :: st) M Q := w1 mC_150 d150_18 rfl rfl
theorem d150_19 : decode cJ5_newCapacity_0f7a4 19 = .ok (.iload 4, 2) := by decide +kernel
theorem k150_19 {d : Nat} {x : Int32} {l0 l1 l2 l3 l5 : Option PV} {st : List PV} {M : Mem} {Q : Option PV → Mem → Prop} : WP d 150 19 [l0, l1, l2, l3, some (vi x), l5] (st) M Q = WP d 150 21 [l0, l1, l2, l3, some (vi x), l5] (vi x :: st) M Q := w1 mC_150 d150_19 rfl rfl
theorem d150_21 : decode cJ5_newCapacity_0f7a4 21 = .ok (.iload_n 2, 1) := by decide +kernel
theorem k150_21 {d : Nat} {x : Int32} {l0 l1 l3 l4 l5 : Option PV} {st : List PV} {M : Mem} {Q : Option PV → Mem → Prop} : WP d 150 21 [l0, l1, some (vi x), l3, l4, l5] (st) M Q = WP d 150 22 [l0, l1, some (vi x), l3, l4, l5] (vi x :: st) M Q := w1 mC_150 d150_21 rfl rfl
theorem d150_22 : decode cJ5_newCapacity_0f7a4 22 = .ok (.iconst 2, 1) := by decide +kernel
theorem k150_22 {d : Nat} {l0 l1 l2 l3 l4 l5 : Option PV} {st : List PV} {M : Mem} {Q : Option PV → Mem → Prop} : WP d 150 22 [l0, l1, l2, l3, l4, l5] (st) M Q = WP d 150 23 [l0, l1, l2, l3, l4, l5] (vi 2 :: st) M Q := w_iconst mC_150 d150_22 (by decide)
theorem d150_23 : decode cJ5_newCapacity_0f7a4 23 = .ok (.aload_n 0, 1) := by decide +kernel
theorem k150_23 {d x : Nat} {l1 l2 l3 l4 l5 : Option PV} {st : List PV} {M : Mem} {Q : Option PV → Mem → Prop} : WP d 150 23 [some (vr x), l1, l2, l3, l4, l5] (st) M Q = WP d 150 24 [some (vr x), l1, l2, l3, l4, l5] (vr x :: st) M Q := w1 mC_150 d150_23 rfl rfl
theorem d150_24 : decode cJ5_newCapacity_0f7a4 24 = .ok (.getfield 22, 3) := by decide +kernel
theorem k150_24 {d : Nat} {l0 l1 l2 l3 l4 l5 : Option PV} {st : List PV} {M : Mem} {Q : Option PV → Mem → Prop} {r : Nat} (hk : mK M r = 0) : WP d 150 24 [l0, l1, l2, l3, l4, l5] (vr r :: st) M Q = WP d 150 27 [l0, l1, l2, l3, l4, l5] (vi (mI M r 1) :: st) M Q := w_get mC_150 d150_24 fE_14_22 rfl (by rw [hk]; rfl)
theorem d150_27 : decode cJ5_newCapacity_0f7a4 27 = .ok (.ishl, 1) := by decide +kernel
theorem k150_27 {d : Nat} {l0 l1 l2 l3 l4 l5 : Option PV} {st : List PV} {M : Mem} {Q : Option PV → Mem → Prop} {x y : Int32} : WP d 150 27 [l0, l1, l2, l3, l4, l5] (vi y :: vi x :: st) M Q = WP d 150 28 [l0, l1, l2, l3, l4, l5] (vi (x <<< (y &&& 31)) :: st) M Q := w1 mC_150 d150_27 rfl rfl
theorem d150_28 : decode cJ5_newCapacity_0f7a4 28 = .ok (.iadd, 1) := by decide +kernel
theorem k150_28 {d : Nat} {l0 l1 l2 l3 l4 l5 : Option PV} {st : List PV} {M : Mem} {Q : Option PV → Mem → Prop} {x y : Int32} : WP d 150 28 [l0, l1, l2, l3, l4, l5] (vi y :: vi x :: st) M Q = WP d 150 29 [l0, l1, l2, l3, l4, l5] (vi (x + y) :: st) M Q := w1 mC_150 d150_28 rfl rfl
theorem d150_29 : decode cJ5_newCapacity_0f7a4 29 = .ok (.invokestatic 114, 3) := by decide +kernel
theorem k150_29 {d : Nat} {l0 l1 l2 l3 l4 l5 : Option PV} {st : List PV} {M : Mem} {Q : Option PV → Mem → Prop} {a0 a1 a2 : Int32} (hl : szL st ≤ 8) : WP (d + 1) 150 29 [l0, l1, l2, l3, l4, l5] (vi a2 :: vi a1 :: vi a0 :: st) M Q = WP d 180 0 [some (vi a0), some (vi a1), some (vi a2), none] [] M (fun v M' => WP (d + 1) 150 32 [l0, l1, l2, l3, l4, l5] (psh v st) M' Q) := w_callS mC_150 d150_29 rfl rfl (Nat.le_of_ble_eq_true rfl) (by decide) rfl hl
theorem d150_32 : decode cJ5_newCapacity_0f7a4 32 = .ok (.istore 5, 2) := by decide +kernel
theorem k150_32 {d : Nat} {l0 l1 l2 l3 l4 l5 : Option PV} {st : List PV} {M : Mem} {Q : Option PV → Mem → Prop} {x : Int32} : WP d 150 32 [l0, l1, l2, l3, l4, l5] (vi x :: st) M Q = WP d 150 34 [l0, l1, l2, l3, l4, some (vi x)] (st) M Q := w1 mC_150 d150_32 rfl rfl
theorem d150_34 : decode cJ5_newCapacity_0f7a4 34 = .ok (.iload 5, 2) := by decide +kernel
theorem k150_34 {d : Nat} {x : Int32} {l0 l1 l2 l3 l4 : Option PV} {st : List PV} {M : Mem} {Q : Option PV → Mem → Prop} : WP d 150 34 [l0, l1, l2, l3, l4, some (vi x)] (st) M Q = WP d 150 36 [l0, l1, l2, l3, l4, some (vi x)] (vi x :: st) M Q := w1 mC_150 d150_34 rfl rfl
theorem d150_36 : decode cJ5_newCapacity_0f7a4 36 = .ok (.ldc 39, 2) := by decide +kernel
theorem k150_36 {d : Nat} {l0 l1 l2 l3 l4 l5 : Option PV} {st : List PV} {M : Mem} {Q : Option PV → Mem → Prop} : WP d 150 36 [l0, l1, l2, l3, l4, l5] (st) M Q = WP d 150 38 [l0, l1, l2, l3, l4, l5] (vi 2147483647 :: st) M Q := w_ldc mC_150 d150_36 rfl
theorem d150_38 : decode cJ5_newCapacity_0f7a4 38 = .ok (.if_icmp .ne 13, 3) := by decide +kernel
theorem k150_38 {d : Nat} {l0 l1 l2 l3 l4 l5 : Option PV} {st : List PV} {M : Mem} {Q : Option PV → Mem → Prop} {x y : Int32} : WP d 150 38 [l0, l1, l2, l3, l4, l5] (vi y :: vi x :: st) M Q = (if x = y then WP d 150 41 [l0, l1, l2, l3, l4, l5] (st) M Q else WP d 150 51 [l0, l1, l2, l3, l4, l5] (st) M Q) := w_ic_ne mC_150 d150_38 (by decide)
theorem d150_44 : decode cJ5_newCapacity_0f7a4 44 = .ok (.dup, 1) := by decide +kernel
theorem k150_44 {d : Nat} {l0 l1 l2 l3 l4 l5 : Option PV} {st : List PV} {M : Mem} {Q : Option PV → Mem → Prop} {x : Nat} : WP d 150 44 [l0, l1, l2, l3, l4, l5] (vr x :: st) M Q = WP d 150 45 [l0, l1, l2, l3, l4, l5] (vr x :: vr x :: st) M Q := w1 mC_150 d150_44 rfl rfl
theorem k150_44i {d : Nat} {l0 l1 l2 l3 l4 l5 : Option PV} {st : List PV} {M : Mem} {Q : Option PV → Mem → Prop} {x : Int32} : WP d 150 44 [l0, l1, l2, l3, l4, l5] (vi x :: st) M Q = WP d 150 45 [l0, l1, l2, l3, l4, l5] (vi x :: vi x :: st) M Q := w1 mC_150 d150_44 rfl rfl
theorem d150_51 : decode cJ5_newCapacity_0f7a4 51 = .ok (.iload 5, 2) := by decide +kernel
theorem k150_51 {d : Nat} {x : Int32} {l0 l1 l2 l3 l4 : Option PV} {st : List PV} {M : Mem} {Q : Option PV → Mem → Prop} : WP d 150 51 [l0, l1, l2, l3, l4, some (vi x)] (st) M Q = WP d 150 53 [l0, l1, l2, l3, l4, some (vi x)] (vi x :: st) M Q := w1 mC_150 d150_51 rfl rfl
theorem d150_53 : decode cJ5_newCapacity_0f7a4 53 = .ok (.aload_n 0, 1) := by decide +kernel
theorem k150_53 {d x : Nat} {l1 l2 l3 l4 l5 : Option PV} {st : List PV} {M : Mem} {Q : Option PV → Mem → Prop} : WP d 150 53 [some (vr x), l1, l2, l3, l4, l5] (st) M Q = WP d 150 54 [some (vr x), l1, l2, l3, l4, l5] (vr x :: st) M Q := w1 mC_150 d150_53 rfl rfl
theorem d150_54 : decode cJ5_newCapacity_0f7a4 54 = .ok (.getfield 22, 3) := by decide +kernel
theorem k150_54 {d : Nat} {l0 l1 l2 l3 l4 l5 : Option PV} {st : List PV} {M : Mem} {Q : Option PV → Mem → Prop} {r : Nat} (hk : mK M r = 0) : WP d 150 54 [l0, l1, l2, l3, l4, l5] (vr r :: st) M Q = WP d 150 57 [l0, l1, l2, l3, l4, l5] (vi (mI M r 1) :: st) M Q := w_get mC_150 d150_54 fE_14_22 rfl (by rw [hk]; rfl)
theorem d150_57 : decode cJ5_newCapacity_0f7a4 57 = .ok (.ishr, 1) := by decide +kernel
theorem k150_57 {d : Nat} {l0 l1 l2 l3 l4 l5 : Option PV} {st : List PV} {M : Mem} {Q : Option PV → Mem → Prop} {x y : Int32} : WP d 150 57 [l0, l1, l2, l3, l4, l5] (vi y :: vi x :: st) M Q = WP d 150 58 [l0, l1, l2, l3, l4, l5] (vi (x >>> (y &&& 31)) :: st) M Q := w1 mC_150 d150_57 rfl rfl
theorem d150_58 : decode cJ5_newCapacity_0f7a4 58 = .ok (.ireturn, 1) := by decide +kernel
theorem k150_58 {d : Nat} {l0 l1 l2 l3 l4 l5 : Option PV} {M : Mem} {Q : Option PV → Mem → Prop} {x : Int32} : WP d 150 58 [l0, l1, l2, l3, l4, l5] ([vi x]) M Q = Q (some (vi x)) M := w_iret mC_150 d150_58 rfl
theorem d151_0 : decode cJ5_append_cf1ce 0 = .ok (.aload_n 1, 1) := by decide +kernel
theorem k151_0 {d x : Nat} {l0 l2 : Option PV} {st : List PV} {M : Mem} {Q : Option PV → Mem → Prop} : WP d 151 0 [l0, some (vr x), l2] (st) M Q = WP d 151 1 [l0, some (vr x), l2] (vr x :: st) M Q := w1 mC_151 d151_0 rfl rfl
theorem d151_1 : decode cJ5_append_cf1ce 1 = .ok (.ifnonnull 8, 3) := by decide +kernel
theorem k151_1 {d : Nat} {l0 l1 l2 : Option PV} {st : List PV} {M : Mem} {Q : Option PV → Mem → Prop} {r : Nat} : WP d 151 1 [l0, l1, l2] (vr r :: st) M Q = (if r = 0 then WP d 151 4 [l0, l1, l2] (st) M Q else WP d 151 9 [l0, l1, l2] (st) M Q) := w_nonnull mC_151 d151_1 (by decide)
theorem d151_4 : decode cJ5_append_cf1ce 4 = .ok (.aload_n 0, 1) := by decide +kernel
theorem k151_4 {d x : Nat} {l1 l2 : Option PV} {st : List PV} {M : Mem} {Q : Option PV → Mem → Prop} : WP d 151 4 [some (vr x), l1, l2] (st) M Q = WP d 151 5 [some (vr x), l1, l2] (vr x :: st) M Q := w1 mC_151 d151_4 rfl rfl
theorem d151_8 : decode cJ5_append_cf1ce 8 = .ok (.areturn, 1) := by decide +kernel
theorem k151_8 {d : Nat} {l0 l1 l2 : Option PV} {M : Mem} {Q : Option PV → Mem → Prop} {r : Nat} (hr : 2 ≤ r) : WP d 151 8 [l0, l1, l2] ([vr r]) M Q = Q (some (vr r)) M := w_aret mC_151 d151_8 rfl hr
theorem d151_9 : decode cJ5_append_cf1ce 9 = .ok (.aload_n 1, 1) := by decide +kernel
theorem k151_9 {d x : Nat} {l0 l2 : Option PV} {st : List PV} {M : Mem} {Q : Option PV → Mem → Prop} : WP d 151 9 [l0, some (vr x), l2] (st) M Q = WP d 151 10 [l0, some (vr x), l2] (vr x :: st) M Q := w1 mC_151 d151_9 rfl rfl
theorem d151_10 : decode cJ5_append_cf1ce 10 = .ok (.invokevirtual 32, 3) := by decide +kernel
theorem k151_10 {d : Nat} {l0 l1 l2 : Option PV} {st : List PV} {M : Mem} {Q : Option PV → Mem → Prop} {r : Nat} (hl : szL st ≤ 8) (hk : mK M r = 1 ∨ (mK M r = 20 ∧ 1 = 1)) : WP (d + 1) 151 10 [l0, l1, l2] (vr r :: st) M Q = WP d 161 0 [some (vr r)] [] M (fun v M' => WP (d + 1) 151 13 [l0, l1, l2] (psh v st) M' Q) := w_callV mC_151 d151_10 (ci := 1) rfl rfl rfl (Nat.le_of_ble_eq_true rfl) (by decide) rfl hl hk
theorem d151_13 : decode cJ5_append_cf1ce 13 = .ok (.istore_n 2, 1) := by decide +kernel
theorem k151_13 {d : Nat} {l0 l1 l2 : Option PV} {st : List PV} {M : Mem} {Q : Option PV → Mem → Prop} {x : Int32} : WP d 151 13 [l0, l1, l2] (vi x :: st) M Q = WP d 151 14 [l0, l1, some (vi x)] (st) M Q := w1 mC_151 d151_13 rfl rfl
theorem d151_14 : decode cJ5_append_cf1ce 14 = .ok (.aload_n 0, 1) := by decide +kernel
theorem k151_14 {d x : Nat} {l1 l2 : Option PV} {st : List PV} {M : Mem} {Q : Option PV → Mem → Prop} : WP d 151 14 [some (vr x), l1, l2] (st) M Q = WP d 151 15 [some (vr x), l1, l2] (vr x :: st) M Q := w1 mC_151 d151_14 rfl rfl
theorem d151_15 : decode cJ5_append_cf1ce 15 = .ok (.aload_n 0, 1) := by decide +kernel
theorem k151_15 {d x : Nat} {l1 l2 : Option PV} {st : List PV} {M : Mem} {Q : Option PV → Mem → Prop} : WP d 151 15 [some (vr x), l1, l2] (st) M Q = WP d 151 16 [some (vr x), l1, l2] (vr x :: st) M Q := w1 mC_151 d151_15 rfl rfl
theorem d151_16 : decode cJ5_append_cf1ce 16 = .ok (.getfield 79, 3) := by decide +kernel
theorem k151_16 {d : Nat} {l0 l1 l2 : Option PV} {st : List PV} {M : Mem} {Q : Option PV → Mem → Prop} {r : Nat} (hk : mK M r = 0) : WP d 151 16 [l0, l1, l2] (vr r :: st) M Q = WP d 151 19 [l0, l1, l2] (vi (mI M r 3) :: st) M Q := w_get mC_151 d151_16 fE_14_79 rfl (by rw [hk]; rfl)
theorem d151_19 : decode cJ5_append_cf1ce 19 = .ok (.iload_n 2, 1) := by decide +kernel
theorem k151_19 {d : Nat} {x : Int32} {l0 l1 : Option PV} {st : List PV} {M : Mem} {Q : Option PV → Mem → Prop} : WP d 151 19 [l0, l1, some (vi x)] (st) M Q = WP d 151 20 [l0, l1, some (vi x)] (vi x :: st) M Q := w1 mC_151 d151_19 rfl rfl
theorem d151_20 : decode cJ5_append_cf1ce 20 = .ok (.iadd, 1) := by decide +kernel
theorem k151_20 {d : Nat} {l0 l1 l2 : Option PV} {st : List PV} {M : Mem} {Q : Option PV → Mem → Prop} {x y : Int32} : WP d 151 20 [l0, l1, l2] (vi y :: vi x :: st) M Q = WP d 151 21 [l0, l1, l2] (vi (x + y) :: st) M Q := w1 mC_151 d151_20 rfl rfl
theorem d151_21 : decode cJ5_append_cf1ce 21 = .ok (.invokevirtual 100, 3) := by decide +kernel
theorem k151_21 {d : Nat} {l0 l1 l2 : Option PV} {st : List PV} {M : Mem} {Q : Option PV → Mem → Prop} {a0 : Int32} {r : Nat} (hl : szL st ≤ 8) (hk : mK M r = 0) : WP (d + 1) 151 21 [l0, l1, l2] (vi a0 :: vr r :: st) M Q = WP d 149 0 [some (vr r), some (vi a0), none] [] M (fun v M' => WP (d + 1) 151 24 [l0, l1, l2] (psh v st) M' Q) := w_callV mC_151 d151_21 (ci := 0) rfl rfl rfl (Nat.le_of_ble_eq_true rfl) (by decide) rfl hl (Or.inl hk)
theorem d151_24 : decode cJ5_append_cf1ce 24 = .ok (.aload_n 0, 1) := by decide +kernel
theorem k151_24 {d x : Nat} {l1 l2 : Option PV} {st : List PV} {M : Mem} {Q : Option PV → Mem → Prop} : WP d 151 24 [some (vr x), l1, l2] (st) M Q = WP d 151 25 [some (vr x), l1, l2] (vr x :: st) M Q := w1 mC_151 d151_24 rfl rfl
theorem d151_25 : decode cJ5_append_cf1ce 25 = .ok (.aload_n 0, 1) := by decide +kernel
theorem k151_25 {d x : Nat} {l1 l2 : Option PV} {st : List PV} {M : Mem} {Q : Option PV → Mem → Prop} : WP d 151 25 [some (vr x), l1, l2] (st) M Q = WP d 151 26 [some (vr x), l1, l2] (vr x :: st) M Q := w1 mC_151 d151_25 rfl rfl
theorem d151_26 : decode cJ5_append_cf1ce 26 = .ok (.getfield 79, 3) := by decide +kernel
theorem k151_26 {d : Nat} {l0 l1 l2 : Option PV} {st : List PV} {M : Mem} {Q : Option PV → Mem → Prop} {r : Nat} (hk : mK M r = 0) : WP d 151 26 [l0, l1, l2] (vr r :: st) M Q = WP d 151 29 [l0, l1, l2] (vi (mI M r 3) :: st) M Q := w_get mC_151 d151_26 fE_14_79 rfl (by rw [hk]; rfl)
theorem d151_29 : decode cJ5_append_cf1ce 29 = .ok (.aload_n 1, 1) := by decide +kernel
theorem k151_29 {d x : Nat} {l0 l2 : Option PV} {st : List PV} {M : Mem} {Q : Option PV → Mem → Prop} : WP d 151 29 [l0, some (vr x), l2] (st) M Q = WP d 151 30 [l0, some (vr x), l2] (vr x :: st) M Q := w1 mC_151 d151_29 rfl rfl
theorem d151_30 : decode cJ5_append_cf1ce 30 = .ok (.invokevirtual 208, 3) := by decide +kernel
theorem k151_30 {d : Nat} {l0 l1 l2 : Option PV} {st : List PV} {M : Mem} {Q : Option PV → Mem → Prop} {a0 : Int32} {a1 : Nat} {r : Nat} (hl : szL st ≤ 8) (hk : mK M r = 0) : WP (d + 1) 151 30 [l0, l1, l2] (vr a1 :: vi a0 :: vr r :: st) M Q = WP d 157 0 [some (vr r), some (vi a0), some (vr a1)] [] M (fun v M' => WP (d + 1) 151 33 [l0, l1, l2] (psh v st) M' Q) := w_callV mC_151 d151_30 (ci := 0) rfl rfl rfl (Nat.le_of_ble_eq_true rfl) (by decide) rfl hl (Or.inl hk)
theorem d151_33 : decode cJ5_append_cf1ce 33 = .ok (.aload_n 0, 1) := by decide +kernel
theorem k151_33 {d x : Nat} {l1 l2 : Option PV} {st : List PV} {M : Mem} {Q : Option PV → Mem → Prop} : WP d 151 33 [some (vr x), l1, l2] (st) M Q = WP d 151 34 [some (vr x), l1, l2] (vr x :: st) M Q := w1 mC_151 d151_33 rfl rfl
theorem d151_34 : decode cJ5_append_cf1ce 34 = .ok (.dup, 1) := by decide +kernel
theorem k151_34 {d : Nat} {l0 l1 l2 : Option PV} {st : List PV} {M : Mem} {Q : Option PV → Mem → Prop} {x : Nat} : WP d 151 34 [l0, l1, l2] (vr x :: st) M Q = WP d 151 35 [l0, l1, l2] (vr x :: vr x :: st) M Q := w1 mC_151 d151_34 rfl rfl
theorem k151_34i {d : Nat} {l0 l1 l2 : Option PV} {st : List PV} {M : Mem} {Q : Option PV → Mem → Prop} {x : Int32} : WP d 151 34 [l0, l1, l2] (vi x :: st) M Q = WP d 151 35 [l0, l1, l2] (vi x :: vi x :: st) M Q := w1 mC_151 d151_34 rfl rfl
theorem d151_35 : decode cJ5_append_cf1ce 35 = .ok (.getfield 79, 3) := by decide +kernel
theorem k151_35 {d : Nat} {l0 l1 l2 : Option PV} {st : List PV} {M : Mem} {Q : Option PV → Mem → Prop} {r : Nat} (hk : mK M r = 0) : WP d 151 35 [l0, l1, l2] (vr r :: st) M Q = WP d 151 38 [l0, l1, l2] (vi (mI M r 3) :: st) M Q := w_get mC_151 d151_35 fE_14_79 rfl (by rw [hk]; rfl)
theorem d151_38 : decode cJ5_append_cf1ce 38 = .ok (.iload_n 2, 1) := by decide +kernel
theorem k151_38 {d : Nat} {x : Int32} {l0 l1 : Option PV} {st : List PV} {M : Mem} {Q : Option PV → Mem → Prop} : WP d 151 38 [l0, l1, some (vi x)] (st) M Q = WP d 151 39 [l0, l1, some (vi x)] (vi x :: st) M Q := w1 mC_151 d151_38 rfl rfl
theorem d151_39 : decode cJ5_append_cf1ce 39 = .ok (.iadd, 1) := by decide +kernel
theorem k151_39 {d : Nat} {l0 l1 l2 : Option PV} {st : List PV} {M : Mem} {Q : Option PV → Mem → Prop} {x y : Int32} : WP d 151 39 [l0, l1, l2] (vi y :: vi x :: st) M Q = WP d 151 40 [l0, l1, l2] (vi (x + y) :: st) M Q := w1 mC_151 d151_39 rfl rfl
theorem d151_40 : decode cJ5_append_cf1ce 40 = .ok (.putfield 79, 3) := by decide +kernel
theorem k151_40 {d : Nat} {l0 l1 l2 : Option PV} {st : List PV} {M : Mem} {Q : Option PV → Mem → Prop} {r : Nat} {x : Int32} (hk : mK M r = 0) : WP d 151 40 [l0, l1, l2] (vi x :: vr r :: st) M Q = WP d 151 43 [l0, l1, l2] (st) (sI M r 3 x) Q := w_put mC_151 d151_40 fE_14_79 (by decide +kernel) (by rw [hk]; rfl)
theorem d151_43 : decode cJ5_append_cf1ce 43 = .ok (.aload_n 0, 1) := by decide +kernel
theorem k151_43 {d x : Nat} {l1 l2 : Option PV} {st : List PV} {M : Mem} {Q : Option PV → Mem → Prop} : WP d 151 43 [some (vr x), l1, l2] (st) M Q = WP d 151 44 [some (vr x), l1, l2] (vr x :: st) M Q := w1 mC_151 d151_43 rfl rfl
theorem d151_44 : decode cJ5_append_cf1ce 44 = .ok (.areturn, 1) := by decide +kernel
theorem k151_44 {d : Nat} {l0 l1 l2 : Option PV} {M : Mem} {Q : Option PV → Mem → Prop} {r : Nat} (hr : 2 ≤ r) : WP d 151 44 [l0, l1, l2] ([vr r]) M Q = Q (some (vr r)) M := w_aret mC_151 d151_44 rfl hr
theorem d152_0 : decode cJ5_append_3fe6f 0 = .ok (.aload_n 0, 1) := by decide +kernel
theorem k152_0 {d x : Nat} {l1 : Option PV} {st : List PV} {M : Mem} {Q : Option PV → Mem → Prop} : WP d 152 0 [some (vr x), l1] (st) M Q = WP d 152 1 [some (vr x), l1] (vr x :: st) M Q := w1 mC_152 d152_0 rfl rfl
theorem d152_1 : decode cJ5_append_3fe6f 1 = .ok (.aload_n 0, 1) := by decide +kernel
theorem k152_1 {d x : Nat} {l1 : Option PV} {st : List PV} {M : Mem} {Q : Option PV → Mem → Prop} : WP d 152 1 [some (vr x), l1] (st) M Q = WP d 152 2 [some (vr x), l1] (vr x :: st) M Q := w1 mC_152 d152_1 rfl rfl
theorem d152_2 : decode cJ5_append_3fe6f 2 = .ok (.getfield 79, 3) := by decide +kernel
theorem k152_2 {d : Nat} {l0 l1 : Option PV} {st : List PV} {M : Mem} {Q : Option PV → Mem → Prop} {r : Nat} (hk : mK M r = 0) : WP d 152 2 [l0, l1] (vr r :: st) M Q = WP d 152 5 [l0, l1] (vi (mI M r 3) :: st) M Q := w_get mC_152 d152_2 fE_14_79 rfl (by rw [hk]; rfl)
theorem d152_5 : decode cJ5_append_3fe6f 5 = .ok (.iconst 1, 1) := by decide +kernel
theorem k152_5 {d : Nat} {l0 l1 : Option PV} {st : List PV} {M : Mem} {Q : Option PV → Mem → Prop} : WP d 152 5 [l0, l1] (st) M Q = WP d 152 6 [l0, l1] (vi 1 :: st) M Q := w_iconst mC_152 d152_5 (by decide)
theorem d152_6 : decode cJ5_append_3fe6f 6 = .ok (.iadd, 1) := by decide +kernel
theorem k152_6 {d : Nat} {l0 l1 : Option PV} {st : List PV} {M : Mem} {Q : Option PV → Mem → Prop} {x y : Int32} : WP d 152 6 [l0, l1] (vi y :: vi x :: st) M Q = WP d 152 7 [l0, l1] (vi (x + y) :: st) M Q := w1 mC_152 d152_6 rfl rfl
theorem d152_7 : decode cJ5_append_3fe6f 7 = .ok (.invokevirtual 100, 3) := by decide +kernel
theorem k152_7 {d : Nat} {l0 l1 : Option PV} {st : List PV} {M : Mem} {Q : Option PV → Mem → Prop} {a0 : Int32} {r : Nat} (hl : szL st ≤ 8) (hk : mK M r = 0) : WP (d + 1) 152 7 [l0, l1] (vi a0 :: vr r :: st) M Q = WP d 149 0 [some (vr r), some (vi a0), none] [] M (fun v M' => WP (d + 1) 152 10 [l0, l1] (psh v st) M' Q) := w_callV mC_152 d152_7 (ci := 0) rfl rfl rfl (Nat.le_of_ble_eq_true rfl) (by decide) rfl hl (Or.inl hk)
theorem d152_10 : decode cJ5_append_3fe6f 10 = .ok (.aload_n 0, 1) := by decide +kernel
theorem k152_10 {d x : Nat} {l1 : Option PV} {st : List PV} {M : Mem} {Q : Option PV → Mem → Prop} : WP d 152 10 [some (vr x), l1] (st) M Q = WP d 152 11 [some (vr x), l1] (vr x :: st) M Q := w1 mC_152 d152_10 rfl rfl
theorem d152_11 : decode cJ5_append_3fe6f 11 = .ok (.invokevirtual 83, 3) := by decide +kernel
theorem k152_11 {d : Nat} {l0 l1 : Option PV} {st : List PV} {M : Mem} {Q : Option PV → Mem → Prop} {r : Nat} (hl : szL st ≤ 8) (hk : mK M r = 0) : WP (d + 1) 152 11 [l0, l1] (vr r :: st) M Q = WP d 155 0 [some (vr r)] [] M (fun v M' => WP (d + 1) 152 14 [l0, l1] (psh v st) M' Q) := w_callV mC_152 d152_11 (ci := 0) rfl rfl rfl (Nat.le_of_ble_eq_true rfl) (by decide) rfl hl (Or.inl hk)
theorem d152_14 : decode cJ5_append_3fe6f 14 = .ok (.ifCond .eq 31, 3) := by decide +kernel
theorem k152_14 {d : Nat} {l0 l1 : Option PV} {st : List PV} {M : Mem} {Q : Option PV → Mem → Prop} {x : Int32} : WP d 152 14 [l0, l1] (vi x :: st) M Q = (if x = 0 then WP d 152 45 [l0, l1] (st) M Q else WP d 152 17 [l0, l1] (st) M Q) := w_if_eq mC_152 d152_14 (by decide)
theorem d152_17 : decode cJ5_append_3fe6f 17 = .ok (.iload_n 1, 1) := by decide +kernel
theorem k152_17 {d : Nat} {x : Int32} {l0 : Option PV} {st : List PV} {M : Mem} {Q : Option PV → Mem → Prop} : WP d 152 17 [l0, some (vi x)] (st) M Q = WP d 152 18 [l0, some (vi x)] (vi x :: st) M Q := w1 mC_152 d152_17 rfl rfl
theorem d152_18 : decode cJ5_append_3fe6f 18 = .ok (.invokestatic 191, 3) := by decide +kernel
theorem k152_18 {d : Nat} {l0 l1 : Option PV} {st : List PV} {M : Mem} {Q : Option PV → Mem → Prop} {a0 : Int32} (hl : szL st ≤ 8) : WP (d + 1) 152 18 [l0, l1] (vi a0 :: st) M Q = WP d 175 0 [some (vi a0)] [] M (fun v M' => WP (d + 1) 152 21 [l0, l1] (psh v st) M' Q) := w_callS mC_152 d152_18 rfl rfl (Nat.le_of_ble_eq_true rfl) (by decide) rfl hl
theorem d152_21 : decode cJ5_append_3fe6f 21 = .ok (.ifCond .eq 24, 3) := by decide +kernel
theorem k152_21 {d : Nat} {l0 l1 : Option PV} {st : List PV} {M : Mem} {Q : Option PV → Mem → Prop} {x : Int32} : WP d 152 21 [l0, l1] (vi x :: st) M Q = (if x = 0 then WP d 152 45 [l0, l1] (st) M Q else WP d 152 24 [l0, l1] (st) M Q) := w_if_eq mC_152 d152_21 (by decide)
theorem d152_24 : decode cJ5_append_3fe6f 24 = .ok (.aload_n 0, 1) := by decide +kernel
theorem k152_24 {d x : Nat} {l1 : Option PV} {st : List PV} {M : Mem} {Q : Option PV → Mem → Prop} : WP d 152 24 [some (vr x), l1] (st) M Q = WP d 152 25 [some (vr x), l1] (vr x :: st) M Q := w1 mC_152 d152_24 rfl rfl
theorem d152_25 : decode cJ5_append_3fe6f 25 = .ok (.getfield 15, 3) := by decide +kernel
theorem k152_25 {d : Nat} {l0 l1 : Option PV} {st : List PV} {M : Mem} {Q : Option PV → Mem → Prop} {r : Nat} (hk : mK M r = 0) : WP d 152 25 [l0, l1] (vr r :: st) M Q = WP d 152 28 [l0, l1] (vr (mR M r 0) :: st) M Q := w_getr mC_152 d152_25 fE_14_15 rfl (by rw [hk]; rfl)
theorem d152_28 : decode cJ5_append_3fe6f 28 = .ok (.aload_n 0, 1) := by decide +kernel
theorem k152_28 {d x : Nat} {l1 : Option PV} {st : List PV} {M : Mem} {Q : Option PV → Mem → Prop} : WP d 152 28 [some (vr x), l1] (st) M Q = WP d 152 29 [some (vr x), l1] (vr x :: st) M Q := w1 mC_152 d152_28 rfl rfl
theorem d152_29 : decode cJ5_append_3fe6f 29 = .ok (.dup, 1) := by decide +kernel
theorem k152_29 {d : Nat} {l0 l1 : Option PV} {st : List PV} {M : Mem} {Q : Option PV → Mem → Prop} {x : Nat} : WP d 152 29 [l0, l1] (vr x :: st) M Q = WP d 152 30 [l0, l1] (vr x :: vr x :: st) M Q := w1 mC_152 d152_29 rfl rfl
theorem k152_29i {d : Nat} {l0 l1 : Option PV} {st : List PV} {M : Mem} {Q : Option PV → Mem → Prop} {x : Int32} : WP d 152 29 [l0, l1] (vi x :: st) M Q = WP d 152 30 [l0, l1] (vi x :: vi x :: st) M Q := w1 mC_152 d152_29 rfl rfl
theorem d152_30 : decode cJ5_append_3fe6f 30 = .ok (.getfield 79, 3) := by decide +kernel
theorem k152_30 {d : Nat} {l0 l1 : Option PV} {st : List PV} {M : Mem} {Q : Option PV → Mem → Prop} {r : Nat} (hk : mK M r = 0) : WP d 152 30 [l0, l1] (vr r :: st) M Q = WP d 152 33 [l0, l1] (vi (mI M r 3) :: st) M Q := w_get mC_152 d152_30 fE_14_79 rfl (by rw [hk]; rfl)
theorem d152_33 : decode cJ5_append_3fe6f 33 = .ok (.dup_x1, 1) := by decide +kernel
theorem k152_33 {d : Nat} {l0 l1 : Option PV} {st : List PV} {M : Mem} {Q : Option PV → Mem → Prop} {a : Int32} {b : Nat} : WP d 152 33 [l0, l1] (vi a :: vr b :: st) M Q = WP d 152 34 [l0, l1] (vi a :: vr b :: vi a :: st) M Q := w1 mC_152 d152_33 rfl rfl
theorem d152_34 : decode cJ5_append_3fe6f 34 = .ok (.iconst 1, 1) := by decide +kernel
theorem k152_34 {d : Nat} {l0 l1 : Option PV} {st : List PV} {M : Mem} {Q : Option PV → Mem → Prop} : WP d 152 34 [l0, l1] (st) M Q = WP d 152 35 [l0, l1] (vi 1 :: st) M Q := w_iconst mC_152 d152_34 (by decide)
theorem d152_35 : decode cJ5_append_3fe6f 35 = .ok (.iadd, 1) := by decide +kernel
theorem k152_35 {d : Nat} {l0 l1 : Option PV} {st : List PV} {M : Mem} {Q : Option PV → Mem → Prop} {x y : Int32} : WP d 152 35 [l0, l1] (vi y :: vi x :: st) M Q = WP d 152 36 [l0, l1] (vi (x + y) :: st) M Q := w1 mC_152 d152_35 rfl rfl
theorem d152_36 : decode cJ5_append_3fe6f 36 = .ok (.putfield 79, 3) := by decide +kernel
theorem k152_36 {d : Nat} {l0 l1 : Option PV} {st : List PV} {M : Mem} {Q : Option PV → Mem → Prop} {r : Nat} {x : Int32} (hk : mK M r = 0) : WP d 152 36 [l0, l1] (vi x :: vr r :: st) M Q = WP d 152 39 [l0, l1] (st) (sI M r 3 x) Q := w_put mC_152 d152_36 fE_14_79 (by decide +kernel) (by rw [hk]; rfl)
theorem d152_39 : decode cJ5_append_3fe6f 39 = .ok (.iload_n 1, 1) := by decide +kernel
theorem k152_39 {d : Nat} {x : Int32} {l0 : Option PV} {st : List PV} {M : Mem} {Q : Option PV → Mem → Prop} : WP d 152 39 [l0, some (vi x)] (st) M Q = WP d 152 40 [l0, some (vi x)] (vi x :: st) M Q := w1 mC_152 d152_39 rfl rfl
theorem d152_40 : decode cJ5_append_3fe6f 40 = .ok (.i2b, 1) := by decide +kernel
theorem k152_40 {d : Nat} {l0 l1 : Option PV} {st : List PV} {M : Mem} {Q : Option PV → Mem → Prop} {x : Int32} : WP d 152 40 [l0, l1] (vi x :: st) M Q = WP d 152 41 [l0, l1] (vi x.toInt8.toInt32 :: st) M Q := w1 mC_152 d152_40 rfl rfl
theorem d152_41 : decode cJ5_append_3fe6f 41 = .ok (.bastore, 1) := by decide +kernel
theorem k152_41 {d : Nat} {l0 l1 : Option PV} {st : List PV} {M : Mem} {Q : Option PV → Mem → Prop} {r : Nat} {j x : Int32} (hk : mK M r = 18) (hj : inb j (mN M r)) : WP d 152 41 [l0, l1] (vi x :: vi j :: vr r :: st) M Q = WP d 152 42 [l0, l1] (st) (sI M r (ix j) (byV x)) Q := w_bast mC_152 d152_41 hk hj
theorem d152_42 : decode cJ5_append_3fe6f 42 = .ok (.goto 33, 3) := by decide +kernel
theorem k152_42 {d : Nat} {l0 l1 : Option PV} {st : List PV} {M : Mem} {Q : Option PV → Mem → Prop} : WP d 152 42 [l0, l1] (st) M Q = WP d 152 75 [l0, l1] (st) M Q := w_goto mC_152 d152_42 (by decide)
theorem d152_45 : decode cJ5_append_3fe6f 45 = .ok (.aload_n 0, 1) := by decide +kernel
theorem k152_45 {d x : Nat} {l1 : Option PV} {st : List PV} {M : Mem} {Q : Option PV → Mem → Prop} : WP d 152 45 [some (vr x), l1] (st) M Q = WP d 152 46 [some (vr x), l1] (vr x :: st) M Q := w1 mC_152 d152_45 rfl rfl
theorem d152_46 : decode cJ5_append_3fe6f 46 = .ok (.invokevirtual 83, 3) := by decide +kernel
theorem k152_46 {d : Nat} {l0 l1 : Option PV} {st : List PV} {M : Mem} {Q : Option PV → Mem → Prop} {r : Nat} (hl : szL st ≤ 8) (hk : mK M r = 0) : WP (d + 1) 152 46 [l0, l1] (vr r :: st) M Q = WP d 155 0 [some (vr r)] [] M (fun v M' => WP (d + 1) 152 49 [l0, l1] (psh v st) M' Q) := w_callV mC_152 d152_46 (ci := 0) rfl rfl rfl (Nat.le_of_ble_eq_true rfl) (by decide) rfl hl (Or.inl hk)
theorem d152_49 : decode cJ5_append_3fe6f 49 = .ok (.ifCond .eq 7, 3) := by decide +kernel
theorem k152_49 {d : Nat} {l0 l1 : Option PV} {st : List PV} {M : Mem} {Q : Option PV → Mem → Prop} {x : Int32} : WP d 152 49 [l0, l1] (vi x :: st) M Q = (if x = 0 then WP d 152 56 [l0, l1] (st) M Q else WP d 152 52 [l0, l1] (st) M Q) := w_if_eq mC_152 d152_49 (by decide)
theorem d152_52 : decode cJ5_append_3fe6f 52 = .ok (.aload_n 0, 1) := by decide +kernel
theorem k152_52 {d x : Nat} {l1 : Option PV} {st : List PV} {M : Mem} {Q : Option PV → Mem → Prop} : WP d 152 52 [some (vr x), l1] (st) M Q = WP d 152 53 [some (vr x), l1] (vr x :: st) M Q := w1 mC_152 d152_52 rfl rfl
theorem d152_56 : decode cJ5_append_3fe6f 56 = .ok (.aload_n 0, 1) := by decide +kernel
theorem k152_56 {d x : Nat} {l1 : Option PV} {st : List PV} {M : Mem} {Q : Option PV → Mem → Prop} : WP d 152 56 [some (vr x), l1] (st) M Q = WP d 152 57 [some (vr x), l1] (vr x :: st) M Q := w1 mC_152 d152_56 rfl rfl
theorem d152_57 : decode cJ5_append_3fe6f 57 = .ok (.getfield 15, 3) := by decide +kernel
theorem k152_57 {d : Nat} {l0 l1 : Option PV} {st : List PV} {M : Mem} {Q : Option PV → Mem → Prop} {r : Nat} (hk : mK M r = 0) : WP d 152 57 [l0, l1] (vr r :: st) M Q = WP d 152 60 [l0, l1] (vr (mR M r 0) :: st) M Q := w_getr mC_152 d152_57 fE_14_15 rfl (by rw [hk]; rfl)
theorem d152_60 : decode cJ5_append_3fe6f 60 = .ok (.aload_n 0, 1) := by decide +kernel
theorem k152_60 {d x : Nat} {l1 : Option PV} {st : List PV} {M : Mem} {Q : Option PV → Mem → Prop} : WP d 152 60 [some (vr x), l1] (st) M Q = WP d 152 61 [some (vr x), l1] (vr x :: st) M Q := w1 mC_152 d152_60 rfl rfl
theorem d152_61 : decode cJ5_append_3fe6f 61 = .ok (.dup, 1) := by decide +kernel
theorem k152_61 {d : Nat} {l0 l1 : Option PV} {st : List PV} {M : Mem} {Q : Option PV → Mem → Prop} {x : Nat} : WP d 152 61 [l0, l1] (vr x :: st) M Q = WP d 152 62 [l0, l1] (vr x :: vr x :: st) M Q := w1 mC_152 d152_61 rfl rfl
theorem k152_61i {d : Nat} {l0 l1 : Option PV} {st : List PV} {M : Mem} {Q : Option PV → Mem → Prop} {x : Int32} : WP d 152 61 [l0, l1] (vi x :: st) M Q = WP d 152 62 [l0, l1] (vi x :: vi x :: st) M Q := w1 mC_152 d152_61 rfl rfl
theorem d152_62 : decode cJ5_append_3fe6f 62 = .ok (.getfield 79, 3) := by decide +kernel
theorem k152_62 {d : Nat} {l0 l1 : Option PV} {st : List PV} {M : Mem} {Q : Option PV → Mem → Prop} {r : Nat} (hk : mK M r = 0) : WP d 152 62 [l0, l1] (vr r :: st) M Q = WP d 152 65 [l0, l1] (vi (mI M r 3) :: st) M Q := w_get mC_152 d152_62 fE_14_79 rfl (by rw [hk]; rfl)
theorem d152_65 : decode cJ5_append_3fe6f 65 = .ok (.dup_x1, 1) := by decide +kernel
theorem k152_65 {d : Nat} {l0 l1 : Option PV} {st : List PV} {M : Mem} {Q : Option PV → Mem → Prop} {a : Int32} {b : Nat} : WP d 152 65 [l0, l1] (vi a :: vr b :: st) M Q = WP d 152 66 [l0, l1] (vi a :: vr b :: vi a :: st) M Q := w1 mC_152 d152_65 rfl rfl
theorem d152_66 : decode cJ5_append_3fe6f 66 = .ok (.iconst 1, 1) := by decide +kernel
theorem k152_66 {d : Nat} {l0 l1 : Option PV} {st : List PV} {M : Mem} {Q : Option PV → Mem → Prop} : WP d 152 66 [l0, l1] (st) M Q = WP d 152 67 [l0, l1] (vi 1 :: st) M Q := w_iconst mC_152 d152_66 (by decide)
theorem d152_67 : decode cJ5_append_3fe6f 67 = .ok (.iadd, 1) := by decide +kernel
theorem k152_67 {d : Nat} {l0 l1 : Option PV} {st : List PV} {M : Mem} {Q : Option PV → Mem → Prop} {x y : Int32} : WP d 152 67 [l0, l1] (vi y :: vi x :: st) M Q = WP d 152 68 [l0, l1] (vi (x + y) :: st) M Q := w1 mC_152 d152_67 rfl rfl
theorem d152_68 : decode cJ5_append_3fe6f 68 = .ok (.putfield 79, 3) := by decide +kernel
theorem k152_68 {d : Nat} {l0 l1 : Option PV} {st : List PV} {M : Mem} {Q : Option PV → Mem → Prop} {r : Nat} {x : Int32} (hk : mK M r = 0) : WP d 152 68 [l0, l1] (vi x :: vr r :: st) M Q = WP d 152 71 [l0, l1] (st) (sI M r 3 x) Q := w_put mC_152 d152_68 fE_14_79 (by decide +kernel) (by rw [hk]; rfl)
theorem d152_71 : decode cJ5_append_3fe6f 71 = .ok (.iload_n 1, 1) := by decide +kernel
theorem k152_71 {d : Nat} {x : Int32} {l0 : Option PV} {st : List PV} {M : Mem} {Q : Option PV → Mem → Prop} : WP d 152 71 [l0, some (vi x)] (st) M Q = WP d 152 72 [l0, some (vi x)] (vi x :: st) M Q := w1 mC_152 d152_71 rfl rfl
theorem d152_75 : decode cJ5_append_3fe6f 75 = .ok (.aload_n 0, 1) := by decide +kernel
theorem k152_75 {d x : Nat} {l1 : Option PV} {st : List PV} {M : Mem} {Q : Option PV → Mem → Prop} : WP d 152 75 [some (vr x), l1] (st) M Q = WP d 152 76 [some (vr x), l1] (vr x :: st) M Q := w1 mC_152 d152_75 rfl rfl
theorem d152_76 : decode cJ5_append_3fe6f 76 = .ok (.areturn, 1) := by decide +kernel
theorem k152_76 {d : Nat} {l0 l1 : Option PV} {M : Mem} {Q : Option PV → Mem → Prop} {r : Nat} (hr : 2 ≤ r) : WP d 152 76 [l0, l1] ([vr r]) M Q = Q (some (vr r)) M := w_aret mC_152 d152_76 rfl hr
theorem d153_0 : decode cJ5_append_c97b9 0 = .ok (.aload_n 0, 1) := by decide +kernel
theorem k153_0 {d x : Nat} {l1 l2 l3 : Option PV} {st : List PV} {M : Mem} {Q : Option PV → Mem → Prop} : WP d 153 0 [some (vr x), l1, l2, l3] (st) M Q = WP d 153 1 [some (vr x), l1, l2, l3] (vr x :: st) M Q := w1 mC_153 d153_0 rfl rfl
theorem d153_1 : decode cJ5_append_c97b9 1 = .ok (.getfield 79, 3) := by decide +kernel
theorem k153_1 {d : Nat} {l0 l1 l2 l3 : Option PV} {st : List PV} {M : Mem} {Q : Option PV → Mem → Prop} {r : Nat} (hk : mK M r = 0) : WP d 153 1 [l0, l1, l2, l3] (vr r :: st) M Q = WP d 153 4 [l0, l1, l2, l3] (vi (mI M r 3) :: st) M Q := w_get mC_153 d153_1 fE_14_79 rfl (by rw [hk]; rfl)
theorem d153_4 : decode cJ5_append_c97b9 4 = .ok (.istore_n 2, 1) := by decide +kernel
theorem k153_4 {d : Nat} {l0 l1 l2 l3 : Option PV} {st : List PV} {M : Mem} {Q : Option PV → Mem → Prop} {x : Int32} : WP d 153 4 [l0, l1, l2, l3] (vi x :: st) M Q = WP d 153 5 [l0, l1, some (vi x), l3] (st) M Q := w1 mC_153 d153_4 rfl rfl
theorem d153_5 : decode cJ5_append_c97b9 5 = .ok (.iload_n 2, 1) := by decide +kernel
theorem k153_5 {d : Nat} {x : Int32} {l0 l1 l3 : Option PV} {st : List PV} {M : Mem} {Q : Option PV → Mem → Prop} : WP d 153 5 [l0, l1, some (vi x), l3] (st) M Q = WP d 153 6 [l0, l1, some (vi x), l3] (vi x :: st) M Q := w1 mC_153 d153_5 rfl rfl
theorem d153_6 : decode cJ5_append_c97b9 6 = .ok (.iload_n 1, 1) := by decide +kernel
theorem k153_6 {d : Nat} {x : Int32} {l0 l2 l3 : Option PV} {st : List PV} {M : Mem} {Q : Option PV → Mem → Prop} : WP d 153 6 [l0, some (vi x), l2, l3] (st) M Q = WP d 153 7 [l0, some (vi x), l2, l3] (vi x :: st) M Q := w1 mC_153 d153_6 rfl rfl
theorem d153_7 : decode cJ5_append_c97b9 7 = .ok (.invokestatic 245, 3) := by decide +kernel
theorem k153_7 {d : Nat} {l0 l1 l2 l3 : Option PV} {st : List PV} {M : Mem} {Q : Option PV → Mem → Prop} {a0 : Int32} (hl : szL st ≤ 8) : WP (d + 1) 153 7 [l0, l1, l2, l3] (vi a0 :: st) M Q = WP d 159 0 [some (vi a0), none, none, none] [] M (fun v M' => WP (d + 1) 153 10 [l0, l1, l2, l3] (psh v st) M' Q) := w_callS mC_153 d153_7 rfl rfl (Nat.le_of_ble_eq_true rfl) (by decide) rfl hl
theorem d153_10 : decode cJ5_append_c97b9 10 = .ok (.iadd, 1) := by decide +kernel
theorem k153_10 {d : Nat} {l0 l1 l2 l3 : Option PV} {st : List PV} {M : Mem} {Q : Option PV → Mem → Prop} {x y : Int32} : WP d 153 10 [l0, l1, l2, l3] (vi y :: vi x :: st) M Q = WP d 153 11 [l0, l1, l2, l3] (vi (x + y) :: st) M Q := w1 mC_153 d153_10 rfl rfl
theorem d153_11 : decode cJ5_append_c97b9 11 = .ok (.istore_n 3, 1) := by decide +kernel
theorem k153_11 {d : Nat} {l0 l1 l2 l3 : Option PV} {st : List PV} {M : Mem} {Q : Option PV → Mem → Prop} {x : Int32} : WP d 153 11 [l0, l1, l2, l3] (vi x :: st) M Q = WP d 153 12 [l0, l1, l2, some (vi x)] (st) M Q := w1 mC_153 d153_11 rfl rfl
theorem d153_12 : decode cJ5_append_c97b9 12 = .ok (.aload_n 0, 1) := by decide +kernel
theorem k153_12 {d x : Nat} {l1 l2 l3 : Option PV} {st : List PV} {M : Mem} {Q : Option PV → Mem → Prop} : WP d 153 12 [some (vr x), l1, l2, l3] (st) M Q = WP d 153 13 [some (vr x), l1, l2, l3] (vr x :: st) M Q := w1 mC_153 d153_12 rfl rfl
theorem d153_13 : decode cJ5_append_c97b9 13 = .ok (.iload_n 3, 1) := by decide +kernel
theorem k153_13 {d : Nat} {x : Int32} {l0 l1 l2 : Option PV} {st : List PV} {M : Mem} {Q : Option PV → Mem → Prop} : WP d 153 13 [l0, l1, l2, some (vi x)] (st) M Q = WP d 153 14 [l0, l1, l2, some (vi x)] (vi x :: st) M Q := w1 mC_153 d153_13 rfl rfl
theorem d153_14 : decode cJ5_append_c97b9 14 = .ok (.invokevirtual 100, 3) := by decide +kernel
theorem k153_14 {d : Nat} {l0 l1 l2 l3 : Option PV} {st : List PV} {M : Mem} {Q : Option PV → Mem → Prop} {a0 : Int32} {r : Nat} (hl : szL st ≤ 8) (hk : mK M r = 0) : WP (d + 1) 153 14 [l0, l1, l2, l3] (vi a0 :: vr r :: st) M Q = WP d 149 0 [some (vr r), some (vi a0), none] [] M (fun v M' => WP (d + 1) 153 17 [l0, l1, l2, l3] (psh v st) M' Q) := w_callV mC_153 d153_14 (ci := 0) rfl rfl rfl (Nat.le_of_ble_eq_true rfl) (by decide) rfl hl (Or.inl hk)
theorem d153_17 : decode cJ5_append_c97b9 17 = .ok (.aload_n 0, 1) := by decide +kernel
theorem k153_17 {d x : Nat} {l1 l2 l3 : Option PV} {st : List PV} {M : Mem} {Q : Option PV → Mem → Prop} : WP d 153 17 [some (vr x), l1, l2, l3] (st) M Q = WP d 153 18 [some (vr x), l1, l2, l3] (vr x :: st) M Q := w1 mC_153 d153_17 rfl rfl
theorem d153_18 : decode cJ5_append_c97b9 18 = .ok (.invokevirtual 83, 3) := by decide +kernel
theorem k153_18 {d : Nat} {l0 l1 l2 l3 : Option PV} {st : List PV} {M : Mem} {Q : Option PV → Mem → Prop} {r : Nat} (hl : szL st ≤ 8) (hk : mK M r = 0) : WP (d + 1) 153 18 [l0, l1, l2, l3] (vr r :: st) M Q = WP d 155 0 [some (vr r)] [] M (fun v M' => WP (d + 1) 153 21 [l0, l1, l2, l3] (psh v st) M' Q) := w_callV mC_153 d153_18 (ci := 0) rfl rfl rfl (Nat.le_of_ble_eq_true rfl) (by decide) rfl hl (Or.inl hk)
theorem d153_21 : decode cJ5_append_c97b9 21 = .ok (.ifCond .eq 16, 3) := by decide +kernel
theorem k153_21 {d : Nat} {l0 l1 l2 l3 : Option PV} {st : List PV} {M : Mem} {Q : Option PV → Mem → Prop} {x : Int32} : WP d 153 21 [l0, l1, l2, l3] (vi x :: st) M Q = (if x = 0 then WP d 153 37 [l0, l1, l2, l3] (st) M Q else WP d 153 24 [l0, l1, l2, l3] (st) M Q) := w_if_eq mC_153 d153_21 (by decide)
theorem d153_24 : decode cJ5_append_c97b9 24 = .ok (.iload_n 1, 1) := by decide +kernel
theorem k153_24 {d : Nat} {x : Int32} {l0 l2 l3 : Option PV} {st : List PV} {M : Mem} {Q : Option PV → Mem → Prop} : WP d 153 24 [l0, some (vi x), l2, l3] (st) M Q = WP d 153 25 [l0, some (vi x), l2, l3] (vi x :: st) M Q := w1 mC_153 d153_24 rfl rfl
theorem d153_25 : decode cJ5_append_c97b9 25 = .ok (.iload_n 3, 1) := by decide +kernel
theorem k153_25 {d : Nat} {x : Int32} {l0 l1 l2 : Option PV} {st : List PV} {M : Mem} {Q : Option PV → Mem → Prop} : WP d 153 25 [l0, l1, l2, some (vi x)] (st) M Q = WP d 153 26 [l0, l1, l2, some (vi x)] (vi x :: st) M Q := w1 mC_153 d153_25 rfl rfl
theorem d153_26 : decode cJ5_append_c97b9 26 = .ok (.aload_n 0, 1) := by decide +kernel
theorem k153_26 {d x : Nat} {l1 l2 l3 : Option PV} {st : List PV} {M : Mem} {Q : Option PV → Mem → Prop} : WP d 153 26 [some (vr x), l1, l2, l3] (st) M Q = WP d 153 27 [some (vr x), l1, l2, l3] (vr x :: st) M Q := w1 mC_153 d153_26 rfl rfl
theorem d153_27 : decode cJ5_append_c97b9 27 = .ok (.getfield 15, 3) := by decide +kernel
theorem k153_27 {d : Nat} {l0 l1 l2 l3 : Option PV} {st : List PV} {M : Mem} {Q : Option PV → Mem → Prop} {r : Nat} (hk : mK M r = 0) : WP d 153 27 [l0, l1, l2, l3] (vr r :: st) M Q = WP d 153 30 [l0, l1, l2, l3] (vr (mR M r 0) :: st) M Q := w_getr mC_153 d153_27 fE_14_15 rfl (by rw [hk]; rfl)
theorem d153_30 : decode cJ5_append_c97b9 30 = .ok (.invokestatic 248, 3) := by decide +kernel
theorem k153_30 {d : Nat} {l0 l1 l2 l3 : Option PV} {st : List PV} {M : Mem} {Q : Option PV → Mem → Prop} {a0 a1 : Int32} {a2 : Nat} (hl : szL st ≤ 8) : WP (d + 1) 153 30 [l0, l1, l2, l3] (vr a2 :: vi a1 :: vi a0 :: st) M Q = WP d 158 0 [some (vi a0), some (vi a1), some (vr a2), none, none, none, none] [] M (fun v M' => WP (d + 1) 153 33 [l0, l1, l2, l3] (psh v st) M' Q) := w_callS mC_153 d153_30 rfl rfl (Nat.le_of_ble_eq_true rfl) (by decide) rfl hl
theorem d153_33 : decode cJ5_append_c97b9 33 = .ok (.pop, 1) := by decide +kernel
theorem k153_33 {d : Nat} {l0 l1 l2 l3 : Option PV} {st : List PV} {M : Mem} {Q : Option PV → Mem → Prop} {x : Nat} : WP d 153 33 [l0, l1, l2, l3] (vr x :: st) M Q = WP d 153 34 [l0, l1, l2, l3] (st) M Q := w1 mC_153 d153_33 rfl rfl
theorem k153_33i {d : Nat} {l0 l1 l2 l3 : Option PV} {st : List PV} {M : Mem} {Q : Option PV → Mem → Prop} {x : Int32} : WP d 153 33 [l0, l1, l2, l3] (vi x :: st) M Q = WP d 153 34 [l0, l1, l2, l3] (st) M Q := w1 mC_153 d153_33 rfl rfl
theorem d153_34 : decode cJ5_append_c97b9 34 = .ok (.goto 14, 3) := by decide +kernel
theorem k153_34 {d : Nat} {l0 l1 l2 l3 : Option PV} {st : List PV} {M : Mem} {Q : Option PV → Mem → Prop} : WP d 153 34 [l0, l1, l2, l3] (st) M Q = WP d 153 48 [l0, l1, l2, l3] (st) M Q := w_goto mC_153 d153_34 (by decide)
theorem d153_37 : decode cJ5_append_c97b9 37 = .ok (.iload_n 1, 1) := by decide +kernel
theorem k153_37 {d : Nat} {x : Int32} {l0 l2 l3 : Option PV} {st : List PV} {M : Mem} {Q : Option PV → Mem → Prop} : WP d 153 37 [l0, some (vi x), l2, l3] (st) M Q = WP d 153 38 [l0, some (vi x), l2, l3] (vi x :: st) M Q := w1 mC_153 d153_37 rfl rfl
theorem d153_38 : decode cJ5_append_c97b9 38 = .ok (.iload_n 2, 1) := by decide +kernel
theorem k153_38 {d : Nat} {x : Int32} {l0 l1 l3 : Option PV} {st : List PV} {M : Mem} {Q : Option PV → Mem → Prop} : WP d 153 38 [l0, l1, some (vi x), l3] (st) M Q = WP d 153 39 [l0, l1, some (vi x), l3] (vi x :: st) M Q := w1 mC_153 d153_38 rfl rfl
theorem d153_39 : decode cJ5_append_c97b9 39 = .ok (.iload_n 3, 1) := by decide +kernel
theorem k153_39 {d : Nat} {x : Int32} {l0 l1 l2 : Option PV} {st : List PV} {M : Mem} {Q : Option PV → Mem → Prop} : WP d 153 39 [l0, l1, l2, some (vi x)] (st) M Q = WP d 153 40 [l0, l1, l2, some (vi x)] (vi x :: st) M Q := w1 mC_153 d153_39 rfl rfl
theorem d153_40 : decode cJ5_append_c97b9 40 = .ok (.aload_n 0, 1) := by decide +kernel
theorem k153_40 {d x : Nat} {l1 l2 l3 : Option PV} {st : List PV} {M : Mem} {Q : Option PV → Mem → Prop} : WP d 153 40 [some (vr x), l1, l2, l3] (st) M Q = WP d 153 41 [some (vr x), l1, l2, l3] (vr x :: st) M Q := w1 mC_153 d153_40 rfl rfl
theorem d153_41 : decode cJ5_append_c97b9 41 = .ok (.getfield 15, 3) := by decide +kernel
theorem k153_41 {d : Nat} {l0 l1 l2 l3 : Option PV} {st : List PV} {M : Mem} {Q : Option PV → Mem → Prop} {r : Nat} (hk : mK M r = 0) : WP d 153 41 [l0, l1, l2, l3] (vr r :: st) M Q = WP d 153 44 [l0, l1, l2, l3] (vr (mR M r 0) :: st) M Q := w_getr mC_153 d153_41 fE_14_15 rfl (by rw [hk]; rfl)
theorem d153_47 : decode cJ5_append_c97b9 47 = .ok (.pop, 1) := by decide +kernel
theorem k153_47 {d : Nat} {l0 l1 l2 l3 : Option PV} {st : List PV} {M : Mem} {Q : Option PV → Mem → Prop} {x : Nat} : WP d 153 47 [l0, l1, l2, l3] (vr x :: st) M Q = WP d 153 48 [l0, l1, l2, l3] (st) M Q := w1 mC_153 d153_47 rfl rfl
theorem k153_47i {d : Nat} {l0 l1 l2 l3 : Option PV} {st : List PV} {M : Mem} {Q : Option PV → Mem → Prop} {x : Int32} : WP d 153 47 [l0, l1, l2, l3] (vi x :: st) M Q = WP d 153 48 [l0, l1, l2, l3] (st) M Q := w1 mC_153 d153_47 rfl rfl
theorem d153_48 : decode cJ5_append_c97b9 48 = .ok (.aload_n 0, 1) := by decide +kernel
theorem k153_48 {d x : Nat} {l1 l2 l3 : Option PV} {st : List PV} {M : Mem} {Q : Option PV → Mem → Prop} : WP d 153 48 [some (vr x), l1, l2, l3] (st) M Q = WP d 153 49 [some (vr x), l1, l2, l3] (vr x :: st) M Q := w1 mC_153 d153_48 rfl rfl
theorem d153_49 : decode cJ5_append_c97b9 49 = .ok (.iload_n 3, 1) := by decide +kernel
theorem k153_49 {d : Nat} {x : Int32} {l0 l1 l2 : Option PV} {st : List PV} {M : Mem} {Q : Option PV → Mem → Prop} : WP d 153 49 [l0, l1, l2, some (vi x)] (st) M Q = WP d 153 50 [l0, l1, l2, some (vi x)] (vi x :: st) M Q := w1 mC_153 d153_49 rfl rfl
theorem d153_50 : decode cJ5_append_c97b9 50 = .ok (.putfield 79, 3) := by decide +kernel
theorem k153_50 {d : Nat} {l0 l1 l2 l3 : Option PV} {st : List PV} {M : Mem} {Q : Option PV → Mem → Prop} {r : Nat} {x : Int32} (hk : mK M r = 0) : WP d 153 50 [l0, l1, l2, l3] (vi x :: vr r :: st) M Q = WP d 153 53 [l0, l1, l2, l3] (st) (sI M r 3 x) Q := w_put mC_153 d153_50 fE_14_79 (by decide +kernel) (by rw [hk]; rfl)
theorem d153_53 : decode cJ5_append_c97b9 53 = .ok (.aload_n 0, 1) := by decide +kernel
theorem k153_53 {d x : Nat} {l1 l2 l3 : Option PV} {st : List PV} {M : Mem} {Q : Option PV → Mem → Prop} : WP d 153 53 [some (vr x), l1, l2, l3] (st) M Q = WP d 153 54 [some (vr x), l1, l2, l3] (vr x :: st) M Q := w1 mC_153 d153_53 rfl rfl
theorem d153_54 : decode cJ5_append_c97b9 54 = .ok (.areturn, 1) := by decide +kernel
theorem k153_54 {d : Nat} {l0 l1 l2 l3 : Option PV} {M : Mem} {Q : Option PV → Mem → Prop} {r : Nat} (hr : 2 ≤ r) : WP d 153 54 [l0, l1, l2, l3] ([vr r]) M Q = Q (some (vr r)) M := w_aret mC_153 d153_54 rfl hr
theorem d154_0 : decode cJ5_getValue_6d5f1 0 = .ok (.aload_n 0, 1) := by decide +kernel
theorem k154_0 {d x : Nat} {st : List PV} {M : Mem} {Q : Option PV → Mem → Prop} : WP d 154 0 [some (vr x)] (st) M Q = WP d 154 1 [some (vr x)] (vr x :: st) M Q := w1 mC_154 d154_0 rfl rfl
theorem d154_1 : decode cJ5_getValue_6d5f1 1 = .ok (.getfield 15, 3) := by decide +kernel
theorem k154_1 {d : Nat} {l0 : Option PV} {st : List PV} {M : Mem} {Q : Option PV → Mem → Prop} {r : Nat} (hk : mK M r = 0) : WP d 154 1 [l0] (vr r :: st) M Q = WP d 154 4 [l0] (vr (mR M r 0) :: st) M Q := w_getr mC_154 d154_1 fE_14_15 rfl (by rw [hk]; rfl)
theorem d154_4 : decode cJ5_getValue_6d5f1 4 = .ok (.areturn, 1) := by decide +kernel
theorem k154_4 {d : Nat} {l0 : Option PV} {M : Mem} {Q : Option PV → Mem → Prop} {r : Nat} (hr : 2 ≤ r) : WP d 154 4 [l0] ([vr r]) M Q = Q (some (vr r)) M := w_areta mC_154 d154_4 rfl hr
theorem d155_0 : decode cJ5_isLatin1_aae02 0 = .ok (.getstatic 18, 3) := by decide +kernel
theorem k155_0 {d : Nat} {l0 : Option PV} {st : List PV} {M : Mem} {Q : Option PV → Mem → Prop} : WP d 155 0 [l0] (st) M Q = WP d 155 3 [l0] (vi 1 :: st) M Q := w_gets0 mC_155 d155_0 rfl
theorem d155_3 : decode cJ5_isLatin1_aae02 3 = .ok (.ifCond .eq 14, 3) := by decide +kernel
theorem k155_3 {d : Nat} {l0 : Option PV} {st : List PV} {M : Mem} {Q : Option PV → Mem → Prop} {x : Int32} : WP d 155 3 [l0] (vi x :: st) M Q = (if x = 0 then WP d 155 17 [l0] (st) M Q else WP d 155 6 [l0] (st) M Q) := w_if_eq mC_155 d155_3 (by decide)
theorem d155_6 : decode cJ5_isLatin1_aae02 6 = .ok (.aload_n 0, 1) := by decide +kernel
theorem k155_6 {d x : Nat} {st : List PV} {M : Mem} {Q : Option PV → Mem → Prop} : WP d 155 6 [some (vr x)] (st) M Q = WP d 155 7 [some (vr x)] (vr x :: st) M Q := w1 mC_155 d155_6 rfl rfl
theorem d155_7 : decode cJ5_isLatin1_aae02 7 = .ok (.getfield 22, 3) := by decide +kernel
theorem k155_7 {d : Nat} {l0 : Option PV} {st : List PV} {M : Mem} {Q : Option PV → Mem → Prop} {r : Nat} (hk : mK M r = 0) : WP d 155 7 [l0] (vr r :: st) M Q = WP d 155 10 [l0] (vi (mI M r 1) :: st) M Q := w_get mC_155 d155_7 fE_14_22 rfl (by rw [hk]; rfl)
theorem d155_10 : decode cJ5_isLatin1_aae02 10 = .ok (.ifCond .ne 7, 3) := by decide +kernel
theorem k155_10 {d : Nat} {l0 : Option PV} {st : List PV} {M : Mem} {Q : Option PV → Mem → Prop} {x : Int32} : WP d 155 10 [l0] (vi x :: st) M Q = (if x = 0 then WP d 155 13 [l0] (st) M Q else WP d 155 17 [l0] (st) M Q) := w_if_ne mC_155 d155_10 (by decide)
theorem d155_13 : decode cJ5_isLatin1_aae02 13 = .ok (.iconst 1, 1) := by decide +kernel
theorem k155_13 {d : Nat} {l0 : Option PV} {st : List PV} {M : Mem} {Q : Option PV → Mem → Prop} : WP d 155 13 [l0] (st) M Q = WP d 155 14 [l0] (vi 1 :: st) M Q := w_iconst mC_155 d155_13 (by decide)
theorem d155_14 : decode cJ5_isLatin1_aae02 14 = .ok (.goto 4, 3) := by decide +kernel
theorem k155_14 {d : Nat} {l0 : Option PV} {st : List PV} {M : Mem} {Q : Option PV → Mem → Prop} : WP d 155 14 [l0] (st) M Q = WP d 155 18 [l0] (st) M Q := w_goto mC_155 d155_14 (by decide)
theorem d155_17 : decode cJ5_isLatin1_aae02 17 = .ok (.iconst 0, 1) := by decide +kernel
theorem k155_17 {d : Nat} {l0 : Option PV} {st : List PV} {M : Mem} {Q : Option PV → Mem → Prop} : WP d 155 17 [l0] (st) M Q = WP d 155 18 [l0] (vi 0 :: st) M Q := w_iconst mC_155 d155_17 (by decide)
theorem d155_18 : decode cJ5_isLatin1_aae02 18 = .ok (.ireturn, 1) := by decide +kernel
theorem k155_18 {d : Nat} {l0 : Option PV} {M : Mem} {Q : Option PV → Mem → Prop} {x : Int32} (hx : x = 0 ∨ x = 1) : WP d 155 18 [l0] ([vi x]) M Q = Q (some (vi x)) M := w_zret mC_155 d155_18 rfl hx
theorem d156_0 : decode cJ5_inflateIfNeededFor_a7421 0 = .ok (.getstatic 18, 3) := by decide +kernel
theorem k156_0 {d : Nat} {l0 l1 : Option PV} {st : List PV} {M : Mem} {Q : Option PV → Mem → Prop} : WP d 156 0 [l0, l1] (st) M Q = WP d 156 3 [l0, l1] (vi 1 :: st) M Q := w_gets0 mC_156 d156_0 rfl
theorem d156_3 : decode cJ5_inflateIfNeededFor_a7421 3 = .ok (.ifCond .eq 18, 3) := by decide +kernel
theorem k156_3 {d : Nat} {l0 l1 : Option PV} {st : List PV} {M : Mem} {Q : Option PV → Mem → Prop} {x : Int32} : WP d 156 3 [l0, l1] (vi x :: st) M Q = (if x = 0 then WP d 156 21 [l0, l1] (st) M Q else WP d 156 6 [l0, l1] (st) M Q) := w_if_eq mC_156 d156_3 (by decide)
theorem d156_6 : decode cJ5_inflateIfNeededFor_a7421 6 = .ok (.aload_n 0, 1) := by decide +kernel
theorem k156_6 {d x : Nat} {l1 : Option PV} {st : List PV} {M : Mem} {Q : Option PV → Mem → Prop} : WP d 156 6 [some (vr x), l1] (st) M Q = WP d 156 7 [some (vr x), l1] (vr x :: st) M Q := w1 mC_156 d156_6 rfl rfl
theorem d156_7 : decode cJ5_inflateIfNeededFor_a7421 7 = .ok (.getfield 22, 3) := by decide +kernel
theorem k156_7 {d : Nat} {l0 l1 : Option PV} {st : List PV} {M : Mem} {Q : Option PV → Mem → Prop} {r : Nat} (hk : mK M r = 0) : WP d 156 7 [l0, l1] (vr r :: st) M Q = WP d 156 10 [l0, l1] (vi (mI M r 1) :: st) M Q := w_get mC_156 d156_7 fE_14_22 rfl (by rw [hk]; rfl)
theorem d156_10 : decode cJ5_inflateIfNeededFor_a7421 10 = .ok (.aload_n 1, 1) := by decide +kernel
theorem k156_10 {d x : Nat} {l0 : Option PV} {st : List PV} {M : Mem} {Q : Option PV → Mem → Prop} : WP d 156 10 [l0, some (vr x)] (st) M Q = WP d 156 11 [l0, some (vr x)] (vr x :: st) M Q := w1 mC_156 d156_10 rfl rfl
theorem d156_11 : decode cJ5_inflateIfNeededFor_a7421 11 = .ok (.invokevirtual 40, 3) := by decide +kernel
theorem k156_11 {d : Nat} {l0 l1 : Option PV} {st : List PV} {M : Mem} {Q : Option PV → Mem → Prop} {r : Nat} (hl : szL st ≤ 8) (hk : mK M r = 1 ∨ (mK M r = 20 ∧ 1 = 1)) : WP (d + 1) 156 11 [l0, l1] (vr r :: st) M Q = WP d 165 0 [some (vr r)] [] M (fun v M' => WP (d + 1) 156 14 [l0, l1] (psh v st) M' Q) := w_callV mC_156 d156_11 (ci := 1) rfl rfl rfl (Nat.le_of_ble_eq_true rfl) (by decide) rfl hl hk
theorem d156_14 : decode cJ5_inflateIfNeededFor_a7421 14 = .ok (.if_icmp .eq 7, 3) := by decide +kernel
theorem k156_14 {d : Nat} {l0 l1 : Option PV} {st : List PV} {M : Mem} {Q : Option PV → Mem → Prop} {x y : Int32} : WP d 156 14 [l0, l1] (vi y :: vi x :: st) M Q = (if x = y then WP d 156 21 [l0, l1] (st) M Q else WP d 156 17 [l0, l1] (st) M Q) := w_ic_eq mC_156 d156_14 (by decide)
theorem d156_17 : decode cJ5_inflateIfNeededFor_a7421 17 = .ok (.aload_n 0, 1) := by decide +kernel
theorem k156_17 {d x : Nat} {l1 : Option PV} {st : List PV} {M : Mem} {Q : Option PV → Mem → Prop} : WP d 156 17 [some (vr x), l1] (st) M Q = WP d 156 18 [some (vr x), l1] (vr x :: st) M Q := w1 mC_156 d156_17 rfl rfl
theorem d156_21 : decode cJ5_inflateIfNeededFor_a7421 21 = .ok (.return_, 1) := by decide +kernel
theorem k156_21 {d : Nat} {l0 l1 : Option PV} {M : Mem} {Q : Option PV → Mem → Prop} : WP d 156 21 [l0, l1] ([]) M Q = Q none M := w_vret mC_156 d156_21 rfl
theorem d157_0 : decode cJ5_putStringAt_47b60 0 = .ok (.aload_n 0, 1) := by decide +kernel
theorem k157_0 {d x : Nat} {l1 l2 : Option PV} {st : List PV} {M : Mem} {Q : Option PV → Mem → Prop} : WP d 157 0 [some (vr x), l1, l2] (st) M Q = WP d 157 1 [some (vr x), l1, l2] (vr x :: st) M Q := w1 mC_157 d157_0 rfl rfl
theorem d157_1 : decode cJ5_putStringAt_47b60 1 = .ok (.aload_n 2, 1) := by decide +kernel
theorem k157_1 {d x : Nat} {l0 l1 : Option PV} {st : List PV} {M : Mem} {Q : Option PV → Mem → Prop} : WP d 157 1 [l0, l1, some (vr x)] (st) M Q = WP d 157 2 [l0, l1, some (vr x)] (vr x :: st) M Q := w1 mC_157 d157_1 rfl rfl
theorem d157_2 : decode cJ5_putStringAt_47b60 2 = .ok (.invokevirtual 397, 3) := by decide +kernel
theorem k157_2 {d : Nat} {l0 l1 l2 : Option PV} {st : List PV} {M : Mem} {Q : Option PV → Mem → Prop} {a0 : Nat} {r : Nat} (hl : szL st ≤ 8) (hk : mK M r = 0) : WP (d + 1) 157 2 [l0, l1, l2] (vr a0 :: vr r :: st) M Q = WP d 156 0 [some (vr r), some (vr a0)] [] M (fun v M' => WP (d + 1) 157 5 [l0, l1, l2] (psh v st) M' Q) := w_callV mC_157 d157_2 (ci := 0) rfl rfl rfl (Nat.le_of_ble_eq_true rfl) (by decide) rfl hl (Or.inl hk)
theorem d157_5 : decode cJ5_putStringAt_47b60 5 = .ok (.aload_n 2, 1) := by decide +kernel
theorem k157_5 {d x : Nat} {l0 l1 : Option PV} {st : List PV} {M : Mem} {Q : Option PV → Mem → Prop} : WP d 157 5 [l0, l1, some (vr x)] (st) M Q = WP d 157 6 [l0, l1, some (vr x)] (vr x :: st) M Q := w1 mC_157 d157_5 rfl rfl
theorem d157_6 : decode cJ5_putStringAt_47b60 6 = .ok (.aload_n 0, 1) := by decide +kernel
theorem k157_6 {d x : Nat} {l1 l2 : Option PV} {st : List PV} {M : Mem} {Q : Option PV → Mem → Prop} : WP d 157 6 [some (vr x), l1, l2] (st) M Q = WP d 157 7 [some (vr x), l1, l2] (vr x :: st) M Q := w1 mC_157 d157_6 rfl rfl
theorem d157_7 : decode cJ5_putStringAt_47b60 7 = .ok (.getfield 15, 3) := by decide +kernel
theorem k157_7 {d : Nat} {l0 l1 l2 : Option PV} {st : List PV} {M : Mem} {Q : Option PV → Mem → Prop} {r : Nat} (hk : mK M r = 0) : WP d 157 7 [l0, l1, l2] (vr r :: st) M Q = WP d 157 10 [l0, l1, l2] (vr (mR M r 0) :: st) M Q := w_getr mC_157 d157_7 fE_14_15 rfl (by rw [hk]; rfl)
theorem d157_10 : decode cJ5_putStringAt_47b60 10 = .ok (.iload_n 1, 1) := by decide +kernel
theorem k157_10 {d : Nat} {x : Int32} {l0 l2 : Option PV} {st : List PV} {M : Mem} {Q : Option PV → Mem → Prop} : WP d 157 10 [l0, some (vi x), l2] (st) M Q = WP d 157 11 [l0, some (vi x), l2] (vi x :: st) M Q := w1 mC_157 d157_10 rfl rfl
theorem d157_11 : decode cJ5_putStringAt_47b60 11 = .ok (.aload_n 0, 1) := by decide +kernel
theorem k157_11 {d x : Nat} {l1 l2 : Option PV} {st : List PV} {M : Mem} {Q : Option PV → Mem → Prop} : WP d 157 11 [some (vr x), l1, l2] (st) M Q = WP d 157 12 [some (vr x), l1, l2] (vr x :: st) M Q := w1 mC_157 d157_11 rfl rfl
theorem d157_12 : decode cJ5_putStringAt_47b60 12 = .ok (.getfield 22, 3) := by decide +kernel
theorem k157_12 {d : Nat} {l0 l1 l2 : Option PV} {st : List PV} {M : Mem} {Q : Option PV → Mem → Prop} {r : Nat} (hk : mK M r = 0) : WP d 157 12 [l0, l1, l2] (vr r :: st) M Q = WP d 157 15 [l0, l1, l2] (vi (mI M r 1) :: st) M Q := w_get mC_157 d157_12 fE_14_22 rfl (by rw [hk]; rfl)
theorem d157_15 : decode cJ5_putStringAt_47b60 15 = .ok (.invokevirtual 399, 3) := by decide +kernel
theorem k157_15 {d : Nat} {l0 l1 l2 : Option PV} {st : List PV} {M : Mem} {Q : Option PV → Mem → Prop} {a1 a2 : Int32} {a0 : Nat} {r : Nat} (hl : szL st ≤ 8) (hk : mK M r = 1 ∨ (mK M r = 20 ∧ 1 = 1)) : WP (d + 1) 157 15 [l0, l1, l2] (vi a2 :: vi a1 :: vr a0 :: vr r :: st) M Q = WP d 163 0 [some (vr r), some (vr a0), some (vi a1), some (vi a2)] [] M (fun v M' => WP (d + 1) 157 18 [l0, l1, l2] (psh v st) M' Q) := w_callV mC_157 d157_15 (ci := 1) rfl rfl rfl (Nat.le_of_ble_eq_true rfl) (by decide) rfl hl hk
theorem d157_18 : decode cJ5_putStringAt_47b60 18 = .ok (.return_, 1) := by decide +kernel
theorem k157_18 {d : Nat} {l0 l1 l2 : Option PV} {M : Mem} {Q : Option PV → Mem → Prop} : WP d 157 18 [l0, l1, l2] ([]) M Q = Q none M := w_vret mC_157 d157_18 rfl
theorem d158_0 : decode cJ6_getChars_ba4f3 0 = .ok (.iload_n 1, 1) := by decide +kernel
theorem k158_0 {d : Nat} {x : Int32} {l0 l2 l3 l4 l5 l6 : Option PV} {st : List PV} {M : Mem} {Q : Option PV → Mem → Prop} : WP d 158 0 [l0, some (vi x), l2, l3, l4, l5, l6] (st) M Q = WP d 158 1 [l0, some (vi x), l2, l3, l4, l5, l6] (vi x :: st) M Q := w1 mC_158 d158_0 rfl rfl
theorem d158_1 : decode cJ6_getChars_ba4f3 1 = .ok (.istore 5, 2) := by decide +kernel
theorem k158_1 {d : Nat} {l0 l1 l2 l3 l4 l5 l6 : Option PV} {st : List PV} {M : Mem} {Q : Option PV → Mem → Prop} {x : Int32} : WP d 158 1 [l0, l1, l2, l3, l4, l5, l6] (vi x :: st) M Q = WP d 158 3 [l0, l1, l2, l3, l4, some (vi x), l6] (st) M Q := w1 mC_158 d158_1 rfl rfl
theorem d158_3 : decode cJ6_getChars_ba4f3 3 = .ok (.iload_n 0, 1) := by decide +kernel
theorem k158_3 {d : Nat} {x : Int32} {l1 l2 l3 l4 l5 l6 : Option PV} {st : List PV} {M : Mem} {Q : Option PV → Mem → Prop} : WP d 158 3 [some (vi x), l1, l2, l3, l4, l5, l6] (st) M Q = WP d 158 4 [some (vi x), l1, l2, l3, l4, l5, l6] (vi x :: st) M Q := w1 mC_158 d158_3 rfl rfl
theorem d158_4 : decode cJ6_getChars_ba4f3 4 = .ok (.ifCond .ge 7, 3) := by decide +kernel
theorem k158_4 {d : Nat} {l0 l1 l2 l3 l4 l5 l6 : Option PV} {st : List PV} {M : Mem} {Q : Option PV → Mem → Prop} {x : Int32} : WP d 158 4 [l0, l1, l2, l3, l4, l5, l6] (vi x :: st) M Q = (if 0 ≤ x then WP d 158 11 [l0, l1, l2, l3, l4, l5, l6] (st) M Q else WP d 158 7 [l0, l1, l2, l3, l4, l5, l6] (st) M Q) := w_if_ge mC_158 d158_4 (by decide)
theorem d158_7 : decode cJ6_getChars_ba4f3 7 = .ok (.iconst 1, 1) := by decide +kernel
theorem k158_7 {d : Nat} {l0 l1 l2 l3 l4 l5 l6 : Option PV} {st : List PV} {M : Mem} {Q : Option PV → Mem → Prop} : WP d 158 7 [l0, l1, l2, l3, l4, l5, l6] (st) M Q = WP d 158 8 [l0, l1, l2, l3, l4, l5, l6] (vi 1 :: st) M Q := w_iconst mC_158 d158_7 (by decide)
theorem d158_8 : decode cJ6_getChars_ba4f3 8 = .ok (.goto 4, 3) := by decide +kernel
theorem k158_8 {d : Nat} {l0 l1 l2 l3 l4 l5 l6 : Option PV} {st : List PV} {M : Mem} {Q : Option PV → Mem → Prop} : WP d 158 8 [l0, l1, l2, l3, l4, l5, l6] (st) M Q = WP d 158 12 [l0, l1, l2, l3, l4, l5, l6] (st) M Q := w_goto mC_158 d158_8 (by decide)
theorem d158_11 : decode cJ6_getChars_ba4f3 11 = .ok (.iconst 0, 1) := by decide +kernel
theorem k158_11 {d : Nat} {l0 l1 l2 l3 l4 l5 l6 : Option PV} {st : List PV} {M : Mem} {Q : Option PV → Mem → Prop} : WP d 158 11 [l0, l1, l2, l3, l4, l5, l6] (st) M Q = WP d 158 12 [l0, l1, l2, l3, l4, l5, l6] (vi 0 :: st) M Q := w_iconst mC_158 d158_11 (by decide)
theorem d158_12 : decode cJ6_getChars_ba4f3 12 = .ok (.istore 6, 2) := by decide +kernel
theorem k158_12 {d : Nat} {l0 l1 l2 l3 l4 l5 l6 : Option PV} {st : List PV} {M : Mem} {Q : Option PV → Mem → Prop} {x : Int32} : WP d 158 12 [l0, l1, l2, l3, l4, l5, l6] (vi x :: st) M Q = WP d 158 14 [l0, l1, l2, l3, l4, l5, some (vi x)] (st) M Q := w1 mC_158 d158_12 rfl rfl
theorem d158_14 : decode cJ6_getChars_ba4f3 14 = .ok (.iload 6, 2) := by decide +kernel
theorem k158_14 {d : Nat} {x : Int32} {l0 l1 l2 l3 l4 l5 : Option PV} {st : List PV} {M : Mem} {Q : Option PV → Mem → Prop} : WP d 158 14 [l0, l1, l2, l3, l4, l5, some (vi x)] (st) M Q = WP d 158 16 [l0, l1, l2, l3, l4, l5, some (vi x)] (vi x :: st) M Q := w1 mC_158 d158_14 rfl rfl
theorem d158_16 : decode cJ6_getChars_ba4f3 16 = .ok (.ifCond .ne 6, 3) := by decide +kernel
theorem k158_16 {d : Nat} {l0 l1 l2 l3 l4 l5 l6 : Option PV} {st : List PV} {M : Mem} {Q : Option PV → Mem → Prop} {x : Int32} : WP d 158 16 [l0, l1, l2, l3, l4, l5, l6] (vi x :: st) M Q = (if x = 0 then WP d 158 19 [l0, l1, l2, l3, l4, l5, l6] (st) M Q else WP d 158 22 [l0, l1, l2, l3, l4, l5, l6] (st) M Q) := w_if_ne mC_158 d158_16 (by decide)
theorem d158_19 : decode cJ6_getChars_ba4f3 19 = .ok (.iload_n 0, 1) := by decide +kernel
theorem k158_19 {d : Nat} {x : Int32} {l1 l2 l3 l4 l5 l6 : Option PV} {st : List PV} {M : Mem} {Q : Option PV → Mem → Prop} : WP d 158 19 [some (vi x), l1, l2, l3, l4, l5, l6] (st) M Q = WP d 158 20 [some (vi x), l1, l2, l3, l4, l5, l6] (vi x :: st) M Q := w1 mC_158 d158_19 rfl rfl
theorem d158_20 : decode cJ6_getChars_ba4f3 20 = .ok (.ineg, 1) := by decide +kernel
theorem k158_20 {d : Nat} {l0 l1 l2 l3 l4 l5 l6 : Option PV} {st : List PV} {M : Mem} {Q : Option PV → Mem → Prop} {x : Int32} : WP d 158 20 [l0, l1, l2, l3, l4, l5, l6] (vi x :: st) M Q = WP d 158 21 [l0, l1, l2, l3, l4, l5, l6] (vi (-x) :: st) M Q := w1 mC_158 d158_20 rfl rfl
theorem d158_21 : decode cJ6_getChars_ba4f3 21 = .ok (.istore_n 0, 1) := by decide +kernel
theorem k158_21 {d : Nat} {l0 l1 l2 l3 l4 l5 l6 : Option PV} {st : List PV} {M : Mem} {Q : Option PV → Mem → Prop} {x : Int32} : WP d 158 21 [l0, l1, l2, l3, l4, l5, l6] (vi x :: st) M Q = WP d 158 22 [some (vi x), l1, l2, l3, l4, l5, l6] (st) M Q := w1 mC_158 d158_21 rfl rfl
theorem d158_22 : decode cJ6_getChars_ba4f3 22 = .ok (.iload_n 0, 1) := by decide +kernel
theorem k158_22 {d : Nat} {x : Int32} {l1 l2 l3 l4 l5 l6 : Option PV} {st : List PV} {M : Mem} {Q : Option PV → Mem → Prop} : WP d 158 22 [some (vi x), l1, l2, l3, l4, l5, l6] (st) M Q = WP d 158 23 [some (vi x), l1, l2, l3, l4, l5, l6] (vi x :: st) M Q := w1 mC_158 d158_22 rfl rfl
theorem d158_23 : decode cJ6_getChars_ba4f3 23 = .ok (.bipush (-100), 2) := by decide +kernel
theorem k158_23 {d : Nat} {l0 l1 l2 l3 l4 l5 l6 : Option PV} {st : List PV} {M : Mem} {Q : Option PV → Mem → Prop} : WP d 158 23 [l0, l1, l2, l3, l4, l5, l6] (st) M Q = WP d 158 25 [l0, l1, l2, l3, l4, l5, l6] (vi (-100) :: st) M Q := w_bipush mC_158 d158_23 (by decide)
theorem d158_25 : decode cJ6_getChars_ba4f3 25 = .ok (.if_icmp .gt 47, 3) := by decide +kernel
theorem k158_25 {d : Nat} {l0 l1 l2 l3 l4 l5 l6 : Option PV} {st : List PV} {M : Mem} {Q : Option PV → Mem → Prop} {x y : Int32} : WP d 158 25 [l0, l1, l2, l3, l4, l5, l6] (vi y :: vi x :: st) M Q = (if y < x then WP d 158 72 [l0, l1, l2, l3, l4, l5, l6] (st) M Q else WP d 158 28 [l0, l1, l2, l3, l4, l5, l6] (st) M Q) := w_ic_gt mC_158 d158_25 (by decide)
theorem d158_28 : decode cJ6_getChars_ba4f3 28 = .ok (.iload_n 0, 1) := by decide +kernel
theorem k158_28 {d : Nat} {x : Int32} {l1 l2 l3 l4 l5 l6 : Option PV} {st : List PV} {M : Mem} {Q : Option PV → Mem → Prop} : WP d 158 28 [some (vi x), l1, l2, l3, l4, l5, l6] (st) M Q = WP d 158 29 [some (vi x), l1, l2, l3, l4, l5, l6] (vi x :: st) M Q := w1 mC_158 d158_28 rfl rfl
theorem d158_29 : decode cJ6_getChars_ba4f3 29 = .ok (.bipush 100, 2) := by decide +kernel
theorem k158_29 {d : Nat} {l0 l1 l2 l3 l4 l5 l6 : Option PV} {st : List PV} {M : Mem} {Q : Option PV → Mem → Prop} : WP d 158 29 [l0, l1, l2, l3, l4, l5, l6] (st) M Q = WP d 158 31 [l0, l1, l2, l3, l4, l5, l6] (vi 100 :: st) M Q := w_bipush mC_158 d158_29 (by decide)
theorem d158_31 : decode cJ6_getChars_ba4f3 31 = .ok (.idiv, 1) := by decide +kernel
theorem k158_31 {d : Nat} {l0 l1 l2 l3 l4 l5 l6 : Option PV} {st : List PV} {M : Mem} {Q : Option PV → Mem → Prop} {x y : Int32} (h : y ≠ 0) : WP d 158 31 [l0, l1, l2, l3, l4, l5, l6] (vi y :: vi x :: st) M Q = WP d 158 32 [l0, l1, l2, l3, l4, l5, l6] (vi (x / y) :: st) M Q := w_div mC_158 d158_31 h
theorem d158_32 : decode cJ6_getChars_ba4f3 32 = .ok (.istore_n 3, 1) := by decide +kernel
theorem k158_32 {d : Nat} {l0 l1 l2 l3 l4 l5 l6 : Option PV} {st : List PV} {M : Mem} {Q : Option PV → Mem → Prop} {x : Int32} : WP d 158 32 [l0, l1, l2, l3, l4, l5, l6] (vi x :: st) M Q = WP d 158 33 [l0, l1, l2, some (vi x), l4, l5, l6] (st) M Q := w1 mC_158 d158_32 rfl rfl
theorem d158_33 : decode cJ6_getChars_ba4f3 33 = .ok (.iload_n 3, 1) := by decide +kernel
theorem k158_33 {d : Nat} {x : Int32} {l0 l1 l2 l4 l5 l6 : Option PV} {st : List PV} {M : Mem} {Q : Option PV → Mem → Prop} : WP d 158 33 [l0, l1, l2, some (vi x), l4, l5, l6] (st) M Q = WP d 158 34 [l0, l1, l2, some (vi x), l4, l5, l6] (vi x :: st) M Q := w1 mC_158 d158_33 rfl rfl
theorem d158_34 : decode cJ6_getChars_ba4f3 34 = .ok (.bipush 100, 2) := by decide +kernel
theorem k158_34 {d : Nat} {l0 l1 l2 l3 l4 l5 l6 : Option PV} {st : List PV} {M : Mem} {Q : Option PV → Mem → Prop} : WP d 158 34 [l0, l1, l2, l3, l4, l5, l6] (st) M Q = WP d 158 36 [l0, l1, l2, l3, l4, l5, l6] (vi 100 :: st) M Q := w_bipush mC_158 d158_34 (by decide)
theorem d158_36 : decode cJ6_getChars_ba4f3 36 = .ok (.imul, 1) := by decide +kernel
theorem k158_36 {d : Nat} {l0 l1 l2 l3 l4 l5 l6 : Option PV} {st : List PV} {M : Mem} {Q : Option PV → Mem → Prop} {x y : Int32} : WP d 158 36 [l0, l1, l2, l3, l4, l5, l6] (vi y :: vi x :: st) M Q = WP d 158 37 [l0, l1, l2, l3, l4, l5, l6] (vi (x * y) :: st) M Q := w1 mC_158 d158_36 rfl rfl
theorem d158_37 : decode cJ6_getChars_ba4f3 37 = .ok (.iload_n 0, 1) := by decide +kernel
theorem k158_37 {d : Nat} {x : Int32} {l1 l2 l3 l4 l5 l6 : Option PV} {st : List PV} {M : Mem} {Q : Option PV → Mem → Prop} : WP d 158 37 [some (vi x), l1, l2, l3, l4, l5, l6] (st) M Q = WP d 158 38 [some (vi x), l1, l2, l3, l4, l5, l6] (vi x :: st) M Q := w1 mC_158 d158_37 rfl rfl
theorem d158_38 : decode cJ6_getChars_ba4f3 38 = .ok (.isub, 1) := by decide +kernel
theorem k158_38 {d : Nat} {l0 l1 l2 l3 l4 l5 l6 : Option PV} {st : List PV} {M : Mem} {Q : Option PV → Mem → Prop} {x y : Int32} : WP d 158 38 [l0, l1, l2, l3, l4, l5, l6] (vi y :: vi x :: st) M Q = WP d 158 39 [l0, l1, l2, l3, l4, l5, l6] (vi (x - y) :: st) M Q := w1 mC_158 d158_38 rfl rfl
theorem d158_39 : decode cJ6_getChars_ba4f3 39 = .ok (.istore 4, 2) := by decide +kernel
theorem k158_39 {d : Nat} {l0 l1 l2 l3 l4 l5 l6 : Option PV} {st : List PV} {M : Mem} {Q : Option PV → Mem → Prop} {x : Int32} : WP d 158 39 [l0, l1, l2, l3, l4, l5, l6] (vi x :: st) M Q = WP d 158 41 [l0, l1, l2, l3, some (vi x), l5, l6] (st) M Q := w1 mC_158 d158_39 rfl rfl
theorem d158_41 : decode cJ6_getChars_ba4f3 41 = .ok (.iload_n 3, 1) := by decide +kernel
theorem k158_41 {d : Nat} {x : Int32} {l0 l1 l2 l4 l5 l6 : Option PV} {st : List PV} {M : Mem} {Q : Option PV → Mem → Prop} : WP d 158 41 [l0, l1, l2, some (vi x), l4, l5, l6] (st) M Q = WP d 158 42 [l0, l1, l2, some (vi x), l4, l5, l6] (vi x :: st) M Q := w1 mC_158 d158_41 rfl rfl
theorem d158_42 : decode cJ6_getChars_ba4f3 42 = .ok (.istore_n 0, 1) := by decide +kernel
theorem k158_42 {d : Nat} {l0 l1 l2 l3 l4 l5 l6 : Option PV} {st : List PV} {M : Mem} {Q : Option PV → Mem → Prop} {x : Int32} : WP d 158 42 [l0, l1, l2, l3, l4, l5, l6] (vi x :: st) M Q = WP d 158 43 [some (vi x), l1, l2, l3, l4, l5, l6] (st) M Q := w1 mC_158 d158_42 rfl rfl
theorem d158_43 : decode cJ6_getChars_ba4f3 43 = .ok (.aload_n 2, 1) := by decide +kernel
theorem k158_43 {d x : Nat} {l0 l1 l3 l4 l5 l6 : Option PV} {st : List PV} {M : Mem} {Q : Option PV → Mem → Prop} : WP d 158 43 [l0, l1, some (vr x), l3, l4, l5, l6] (st) M Q = WP d 158 44 [l0, l1, some (vr x), l3, l4, l5, l6] (vr x :: st) M Q := w1 mC_158 d158_43 rfl rfl
theorem d158_44 : decode cJ6_getChars_ba4f3 44 = .ok (.iinc 5 (-1), 3) := by decide +kernel
theorem k158_44 {d : Nat} {x : Int32} {l0 l1 l2 l3 l4 l6 : Option PV} {st : List PV} {M : Mem} {Q : Option PV → Mem → Prop} : WP d 158 44 [l0, l1, l2, l3, l4, some (vi x), l6] (st) M Q = WP d 158 47 [l0, l1, l2, l3, l4, some (vi (x + (-1))), l6] (st) M Q := w_iinc mC_158 d158_44 rfl (by decide) rfl
theorem d158_47 : decode cJ6_getChars_ba4f3 47 = .ok (.iload 5, 2) := by decide +kernel
theorem k158_47 {d : Nat} {x : Int32} {l0 l1 l2 l3 l4 l6 : Option PV} {st : List PV} {M : Mem} {Q : Option PV → Mem → Prop} : WP d 158 47 [l0, l1, l2, l3, l4, some (vi x), l6] (st) M Q = WP d 158 49 [l0, l1, l2, l3, l4, some (vi x), l6] (vi x :: st) M Q := w1 mC_158 d158_47 rfl rfl
theorem d158_49 : decode cJ6_getChars_ba4f3 49 = .ok (.getstatic 83, 3) := by decide +kernel
theorem k158_49 {d : Nat} {l0 l1 l2 l3 l4 l5 l6 : Option PV} {st : List PV} {M : Mem} {Q : Option PV → Mem → Prop} : WP d 158 49 [l0, l1, l2, l3, l4, l5, l6] (st) M Q = WP d 158 52 [l0, l1, l2, l3, l4, l5, l6] (vr 1000040 :: st) M Q := w_gets1 mC_158 d158_49 rfl
theorem d158_52 : decode cJ6_getChars_ba4f3 52 = .ok (.iload 4, 2) := by decide +kernel
theorem k158_52 {d : Nat} {x : Int32} {l0 l1 l2 l3 l5 l6 : Option PV} {st : List PV} {M : Mem} {Q : Option PV → Mem → Prop} : WP d 158 52 [l0, l1, l2, l3, some (vi x), l5, l6] (st) M Q = WP d 158 54 [l0, l1, l2, l3, some (vi x), l5, l6] (vi x :: st) M Q := w1 mC_158 d158_52 rfl rfl
theorem d158_54 : decode cJ6_getChars_ba4f3 54 = .ok (.baload, 1) := by decide +kernel
theorem k158_54 {d : Nat} {l0 l1 l2 l3 l4 l5 l6 : Option PV} {st : List PV} {M : Mem} {Q : Option PV → Mem → Prop} {r : Nat} {j : Int32} (hk : mK M r = 18 ∨ mK M r = 19) (hj : inb j (mN M r)) : WP d 158 54 [l0, l1, l2, l3, l4, l5, l6] (vi j :: vr r :: st) M Q = WP d 158 55 [l0, l1, l2, l3, l4, l5, l6] (vi (mI M r (ix j)) :: st) M Q := w_bald mC_158 d158_54 hk hj
theorem d158_55 : decode cJ6_getChars_ba4f3 55 = .ok (.bastore, 1) := by decide +kernel
theorem k158_55 {d : Nat} {l0 l1 l2 l3 l4 l5 l6 : Option PV} {st : List PV} {M : Mem} {Q : Option PV → Mem → Prop} {r : Nat} {j x : Int32} (hk : mK M r = 18) (hj : inb j (mN M r)) : WP d 158 55 [l0, l1, l2, l3, l4, l5, l6] (vi x :: vi j :: vr r :: st) M Q = WP d 158 56 [l0, l1, l2, l3, l4, l5, l6] (st) (sI M r (ix j) (byV x)) Q := w_bast mC_158 d158_55 hk hj
theorem d158_56 : decode cJ6_getChars_ba4f3 56 = .ok (.aload_n 2, 1) := by decide +kernel
theorem k158_56 {d x : Nat} {l0 l1 l3 l4 l5 l6 : Option PV} {st : List PV} {M : Mem} {Q : Option PV → Mem → Prop} : WP d 158 56 [l0, l1, some (vr x), l3, l4, l5, l6] (st) M Q = WP d 158 57 [l0, l1, some (vr x), l3, l4, l5, l6] (vr x :: st) M Q := w1 mC_158 d158_56 rfl rfl
theorem d158_57 : decode cJ6_getChars_ba4f3 57 = .ok (.iinc 5 (-1), 3) := by decide +kernel
theorem k158_57 {d : Nat} {x : Int32} {l0 l1 l2 l3 l4 l6 : Option PV} {st : List PV} {M : Mem} {Q : Option PV → Mem → Prop} : WP d 158 57 [l0, l1, l2, l3, l4, some (vi x), l6] (st) M Q = WP d 158 60 [l0, l1, l2, l3, l4, some (vi (x + (-1))), l6] (st) M Q := w_iinc mC_158 d158_57 rfl (by decide) rfl
theorem d158_60 : decode cJ6_getChars_ba4f3 60 = .ok (.iload 5, 2) := by decide +kernel
theorem k158_60 {d : Nat} {x : Int32} {l0 l1 l2 l3 l4 l6 : Option PV} {st : List PV} {M : Mem} {Q : Option PV → Mem → Prop} : WP d 158 60 [l0, l1, l2, l3, l4, some (vi x), l6] (st) M Q = WP d 158 62 [l0, l1, l2, l3, l4, some (vi x), l6] (vi x :: st) M Q := w1 mC_158 d158_60 rfl rfl
theorem d158_62 : decode cJ6_getChars_ba4f3 62 = .ok (.getstatic 87, 3) := by decide +kernel
theorem k158_62 {d : Nat} {l0 l1 l2 l3 l4 l5 l6 : Option PV} {st : List PV} {M : Mem} {Q : Option PV → Mem → Prop} : WP d 158 62 [l0, l1, l2, l3, l4, l5, l6] (st) M Q = WP d 158 65 [l0, l1, l2, l3, l4, l5, l6] (vr 1000041 :: st) M Q := w_gets2 mC_158 d158_62 rfl
theorem d158_65 : decode cJ6_getChars_ba4f3 65 = .ok (.iload 4, 2) := by decide +kernel
theorem k158_65 {d : Nat} {x : Int32} {l0 l1 l2 l3 l5 l6 : Option PV} {st : List PV} {M : Mem} {Q : Option PV → Mem → Prop} : WP d 158 65 [l0, l1, l2, l3, some (vi x), l5, l6] (st) M Q = WP d 158 67 [l0, l1, l2, l3, some (vi x), l5, l6] (vi x :: st) M Q := w1 mC_158 d158_65 rfl rfl
theorem d158_67 : decode cJ6_getChars_ba4f3 67 = .ok (.baload, 1) := by decide +kernel
theorem k158_67 {d : Nat} {l0 l1 l2 l3 l4 l5 l6 : Option PV} {st : List PV} {M : Mem} {Q : Option PV → Mem → Prop} {r : Nat} {j : Int32} (hk : mK M r = 18 ∨ mK M r = 19) (hj : inb j (mN M r)) : WP d 158 67 [l0, l1, l2, l3, l4, l5, l6] (vi j :: vr r :: st) M Q = WP d 158 68 [l0, l1, l2, l3, l4, l5, l6] (vi (mI M r (ix j)) :: st) M Q := w_bald mC_158 d158_67 hk hj
theorem d158_68 : decode cJ6_getChars_ba4f3 68 = .ok (.bastore, 1) := by decide +kernel
theorem k158_68 {d : Nat} {l0 l1 l2 l3 l4 l5 l6 : Option PV} {st : List PV} {M : Mem} {Q : Option PV → Mem → Prop} {r : Nat} {j x : Int32} (hk : mK M r = 18) (hj : inb j (mN M r)) : WP d 158 68 [l0, l1, l2, l3, l4, l5, l6] (vi x :: vi j :: vr r :: st) M Q = WP d 158 69 [l0, l1, l2, l3, l4, l5, l6] (st) (sI M r (ix j) (byV x)) Q := w_bast mC_158 d158_68 hk hj
theorem d158_69 : decode cJ6_getChars_ba4f3 69 = .ok (.goto (-47), 3) := by decide +kernel
theorem k158_69 {d : Nat} {l0 l1 l2 l3 l4 l5 l6 : Option PV} {st : List PV} {M : Mem} {Q : Option PV → Mem → Prop} : WP d 158 69 [l0, l1, l2, l3, l4, l5, l6] (st) M Q = WP d 158 22 [l0, l1, l2, l3, l4, l5, l6] (st) M Q := w_goto mC_158 d158_69 (by decide)
theorem d158_72 : decode cJ6_getChars_ba4f3 72 = .ok (.aload_n 2, 1) := by decide +kernel
theorem k158_72 {d x : Nat} {l0 l1 l3 l4 l5 l6 : Option PV} {st : List PV} {M : Mem} {Q : Option PV → Mem → Prop} : WP d 158 72 [l0, l1, some (vr x), l3, l4, l5, l6] (st) M Q = WP d 158 73 [l0, l1, some (vr x), l3, l4, l5, l6] (vr x :: st) M Q := w1 mC_158 d158_72 rfl rfl
theorem d158_73 : decode cJ6_getChars_ba4f3 73 = .ok (.iinc 5 (-1), 3) := by decide +kernel
theorem k158_73 {d : Nat} {x : Int32} {l0 l1 l2 l3 l4 l6 : Option PV} {st : List PV} {M : Mem} {Q : Option PV → Mem → Prop} : WP d 158 73 [l0, l1, l2, l3, l4, some (vi x), l6] (st) M Q = WP d 158 76 [l0, l1, l2, l3, l4, some (vi (x + (-1))), l6] (st) M Q := w_iinc mC_158 d158_73 rfl (by decide) rfl
theorem d158_76 : decode cJ6_getChars_ba4f3 76 = .ok (.iload 5, 2) := by decide +kernel
theorem k158_76 {d : Nat} {x : Int32} {l0 l1 l2 l3 l4 l6 : Option PV} {st : List PV} {M : Mem} {Q : Option PV → Mem → Prop} : WP d 158 76 [l0, l1, l2, l3, l4, some (vi x), l6] (st) M Q = WP d 158 78 [l0, l1, l2, l3, l4, some (vi x), l6] (vi x :: st) M Q := w1 mC_158 d158_76 rfl rfl
theorem d158_78 : decode cJ6_getChars_ba4f3 78 = .ok (.getstatic 83, 3) := by decide +kernel
theorem k158_78 {d : Nat} {l0 l1 l2 l3 l4 l5 l6 : Option PV} {st : List PV} {M : Mem} {Q : Option PV → Mem → Prop} : WP d 158 78 [l0, l1, l2, l3, l4, l5, l6] (st) M Q = WP d 158 81 [l0, l1, l2, l3, l4, l5, l6] (vr 1000040 :: st) M Q := w_gets1 mC_158 d158_78 rfl
theorem d158_81 : decode cJ6_getChars_ba4f3 81 = .ok (.iload_n 0, 1) := by decide +kernel
theorem k158_81 {d : Nat} {x : Int32} {l1 l2 l3 l4 l5 l6 : Option PV} {st : List PV} {M : Mem} {Q : Option PV → Mem → Prop} : WP d 158 81 [some (vi x), l1, l2, l3, l4, l5, l6] (st) M Q = WP d 158 82 [some (vi x), l1, l2, l3, l4, l5, l6] (vi x :: st) M Q := w1 mC_158 d158_81 rfl rfl
theorem d158_82 : decode cJ6_getChars_ba4f3 82 = .ok (.ineg, 1) := by decide +kernel
theorem k158_82 {d : Nat} {l0 l1 l2 l3 l4 l5 l6 : Option PV} {st : List PV} {M : Mem} {Q : Option PV → Mem → Prop} {x : Int32} : WP d 158 82 [l0, l1, l2, l3, l4, l5, l6] (vi x :: st) M Q = WP d 158 83 [l0, l1, l2, l3, l4, l5, l6] (vi (-x) :: st) M Q := w1 mC_158 d158_82 rfl rfl
theorem d158_83 : decode cJ6_getChars_ba4f3 83 = .ok (.baload, 1) := by decide +kernel
theorem k158_83 {d : Nat} {l0 l1 l2 l3 l4 l5 l6 : Option PV} {st : List PV} {M : Mem} {Q : Option PV → Mem → Prop} {r : Nat} {j : Int32} (hk : mK M r = 18 ∨ mK M r = 19) (hj : inb j (mN M r)) : WP d 158 83 [l0, l1, l2, l3, l4, l5, l6] (vi j :: vr r :: st) M Q = WP d 158 84 [l0, l1, l2, l3, l4, l5, l6] (vi (mI M r (ix j)) :: st) M Q := w_bald mC_158 d158_83 hk hj
theorem d158_84 : decode cJ6_getChars_ba4f3 84 = .ok (.bastore, 1) := by decide +kernel
theorem k158_84 {d : Nat} {l0 l1 l2 l3 l4 l5 l6 : Option PV} {st : List PV} {M : Mem} {Q : Option PV → Mem → Prop} {r : Nat} {j x : Int32} (hk : mK M r = 18) (hj : inb j (mN M r)) : WP d 158 84 [l0, l1, l2, l3, l4, l5, l6] (vi x :: vi j :: vr r :: st) M Q = WP d 158 85 [l0, l1, l2, l3, l4, l5, l6] (st) (sI M r (ix j) (byV x)) Q := w_bast mC_158 d158_84 hk hj
theorem d158_85 : decode cJ6_getChars_ba4f3 85 = .ok (.iload_n 0, 1) := by decide +kernel
theorem k158_85 {d : Nat} {x : Int32} {l1 l2 l3 l4 l5 l6 : Option PV} {st : List PV} {M : Mem} {Q : Option PV → Mem → Prop} : WP d 158 85 [some (vi x), l1, l2, l3, l4, l5, l6] (st) M Q = WP d 158 86 [some (vi x), l1, l2, l3, l4, l5, l6] (vi x :: st) M Q := w1 mC_158 d158_85 rfl rfl
theorem d158_86 : decode cJ6_getChars_ba4f3 86 = .ok (.bipush (-9), 2) := by decide +kernel
theorem k158_86 {d : Nat} {l0 l1 l2 l3 l4 l5 l6 : Option PV} {st : List PV} {M : Mem} {Q : Option PV → Mem → Prop} : WP d 158 86 [l0, l1, l2, l3, l4, l5, l6] (st) M Q = WP d 158 88 [l0, l1, l2, l3, l4, l5, l6] (vi (-9) :: st) M Q := w_bipush mC_158 d158_86 (by decide)
theorem d158_88 : decode cJ6_getChars_ba4f3 88 = .ok (.if_icmp .ge 16, 3) := by decide +kernel
theorem k158_88 {d : Nat} {l0 l1 l2 l3 l4 l5 l6 : Option PV} {st : List PV} {M : Mem} {Q : Option PV → Mem → Prop} {x y : Int32} : WP d 158 88 [l0, l1, l2, l3, l4, l5, l6] (vi y :: vi x :: st) M Q = (if y ≤ x then WP d 158 104 [l0, l1, l2, l3, l4, l5, l6] (st) M Q else WP d 158 91 [l0, l1, l2, l3, l4, l5, l6] (st) M Q) := w_ic_ge mC_158 d158_88 (by decide)
theorem d158_91 : decode cJ6_getChars_ba4f3 91 = .ok (.aload_n 2, 1) := by decide +kernel
theorem k158_91 {d x : Nat} {l0 l1 l3 l4 l5 l6 : Option PV} {st : List PV} {M : Mem} {Q : Option PV → Mem → Prop} : WP d 158 91 [l0, l1, some (vr x), l3, l4, l5, l6] (st) M Q = WP d 158 92 [l0, l1, some (vr x), l3, l4, l5, l6] (vr x :: st) M Q := w1 mC_158 d158_91 rfl rfl
theorem d158_92 : decode cJ6_getChars_ba4f3 92 = .ok (.iinc 5 (-1), 3) := by decide +kernel
theorem k158_92 {d : Nat} {x : Int32} {l0 l1 l2 l3 l4 l6 : Option PV} {st : List PV} {M : Mem} {Q : Option PV → Mem → Prop} : WP d 158 92 [l0, l1, l2, l3, l4, some (vi x), l6] (st) M Q = WP d 158 95 [l0, l1, l2, l3, l4, some (vi (x + (-1))), l6] (st) M Q := w_iinc mC_158 d158_92 rfl (by decide) rfl
theorem d158_95 : decode cJ6_getChars_ba4f3 95 = .ok (.iload 5, 2) := by decide +kernel
theorem k158_95 {d : Nat} {x : Int32} {l0 l1 l2 l3 l4 l6 : Option PV} {st : List PV} {M : Mem} {Q : Option PV → Mem → Prop} : WP d 158 95 [l0, l1, l2, l3, l4, some (vi x), l6] (st) M Q = WP d 158 97 [l0, l1, l2, l3, l4, some (vi x), l6] (vi x :: st) M Q := w1 mC_158 d158_95 rfl rfl
theorem d158_97 : decode cJ6_getChars_ba4f3 97 = .ok (.getstatic 87, 3) := by decide +kernel
theorem k158_97 {d : Nat} {l0 l1 l2 l3 l4 l5 l6 : Option PV} {st : List PV} {M : Mem} {Q : Option PV → Mem → Prop} : WP d 158 97 [l0, l1, l2, l3, l4, l5, l6] (st) M Q = WP d 158 100 [l0, l1, l2, l3, l4, l5, l6] (vr 1000041 :: st) M Q := w_gets2 mC_158 d158_97 rfl
theorem d158_100 : decode cJ6_getChars_ba4f3 100 = .ok (.iload_n 0, 1) := by decide +kernel
theorem k158_100 {d : Nat} {x : Int32} {l1 l2 l3 l4 l5 l6 : Option PV} {st : List PV} {M : Mem} {Q : Option PV → Mem → Prop} : WP d 158 100 [some (vi x), l1, l2, l3, l4, l5, l6] (st) M Q = WP d 158 101 [some (vi x), l1, l2, l3, l4, l5, l6] (vi x :: st) M Q := w1 mC_158 d158_100 rfl rfl
theorem d158_101 : decode cJ6_getChars_ba4f3 101 = .ok (.ineg, 1) := by decide +kernel
theorem k158_101 {d : Nat} {l0 l1 l2 l3 l4 l5 l6 : Option PV} {st : List PV} {M : Mem} {Q : Option PV → Mem → Prop} {x : Int32} : WP d 158 101 [l0, l1, l2, l3, l4, l5, l6] (vi x :: st) M Q = WP d 158 102 [l0, l1, l2, l3, l4, l5, l6] (vi (-x) :: st) M Q := w1 mC_158 d158_101 rfl rfl
theorem d158_102 : decode cJ6_getChars_ba4f3 102 = .ok (.baload, 1) := by decide +kernel
theorem k158_102 {d : Nat} {l0 l1 l2 l3 l4 l5 l6 : Option PV} {st : List PV} {M : Mem} {Q : Option PV → Mem → Prop} {r : Nat} {j : Int32} (hk : mK M r = 18 ∨ mK M r = 19) (hj : inb j (mN M r)) : WP d 158 102 [l0, l1, l2, l3, l4, l5, l6] (vi j :: vr r :: st) M Q = WP d 158 103 [l0, l1, l2, l3, l4, l5, l6] (vi (mI M r (ix j)) :: st) M Q := w_bald mC_158 d158_102 hk hj
theorem d158_103 : decode cJ6_getChars_ba4f3 103 = .ok (.bastore, 1) := by decide +kernel
theorem k158_103 {d : Nat} {l0 l1 l2 l3 l4 l5 l6 : Option PV} {st : List PV} {M : Mem} {Q : Option PV → Mem → Prop} {r : Nat} {j x : Int32} (hk : mK M r = 18) (hj : inb j (mN M r)) : WP d 158 103 [l0, l1, l2, l3, l4, l5, l6] (vi x :: vi j :: vr r :: st) M Q = WP d 158 104 [l0, l1, l2, l3, l4, l5, l6] (st) (sI M r (ix j) (byV x)) Q := w_bast mC_158 d158_103 hk hj
theorem d158_104 : decode cJ6_getChars_ba4f3 104 = .ok (.iload 6, 2) := by decide +kernel
theorem k158_104 {d : Nat} {x : Int32} {l0 l1 l2 l3 l4 l5 : Option PV} {st : List PV} {M : Mem} {Q : Option PV → Mem → Prop} : WP d 158 104 [l0, l1, l2, l3, l4, l5, some (vi x)] (st) M Q = WP d 158 106 [l0, l1, l2, l3, l4, l5, some (vi x)] (vi x :: st) M Q := w1 mC_158 d158_104 rfl rfl
theorem d158_106 : decode cJ6_getChars_ba4f3 106 = .ok (.ifCond .eq 12, 3) := by decide +kernel
theorem k158_106 {d : Nat} {l0 l1 l2 l3 l4 l5 l6 : Option PV} {st : List PV} {M : Mem} {Q : Option PV → Mem → Prop} {x : Int32} : WP d 158 106 [l0, l1, l2, l3, l4, l5, l6] (vi x :: st) M Q = (if x = 0 then WP d 158 118 [l0, l1, l2, l3, l4, l5, l6] (st) M Q else WP d 158 109 [l0, l1, l2, l3, l4, l5, l6] (st) M Q) := w_if_eq mC_158 d158_106 (by decide)
theorem d158_109 : decode cJ6_getChars_ba4f3 109 = .ok (.aload_n 2, 1) := by decide +kernel
theorem k158_109 {d x : Nat} {l0 l1 l3 l4 l5 l6 : Option PV} {st : List PV} {M : Mem} {Q : Option PV → Mem → Prop} : WP d 158 109 [l0, l1, some (vr x), l3, l4, l5, l6] (st) M Q = WP d 158 110 [l0, l1, some (vr x), l3, l4, l5, l6] (vr x :: st) M Q := w1 mC_158 d158_109 rfl rfl
theorem d158_110 : decode cJ6_getChars_ba4f3 110 = .ok (.iinc 5 (-1), 3) := by decide +kernel
theorem k158_110 {d : Nat} {x : Int32} {l0 l1 l2 l3 l4 l6 : Option PV} {st : List PV} {M : Mem} {Q : Option PV → Mem → Prop} : WP d 158 110 [l0, l1, l2, l3, l4, some (vi x), l6] (st) M Q = WP d 158 113 [l0, l1, l2, l3, l4, some (vi (x + (-1))), l6] (st) M Q := w_iinc mC_158 d158_110 rfl (by decide) rfl
theorem d158_113 : decode cJ6_getChars_ba4f3 113 = .ok (.iload 5, 2) := by decide +kernel
theorem k158_113 {d : Nat} {x : Int32} {l0 l1 l2 l3 l4 l6 : Option PV} {st : List PV} {M : Mem} {Q : Option PV → Mem → Prop} : WP d 158 113 [l0, l1, l2, l3, l4, some (vi x), l6] (st) M Q = WP d 158 115 [l0, l1, l2, l3, l4, some (vi x), l6] (vi x :: st) M Q := w1 mC_158 d158_113 rfl rfl
theorem d158_115 : decode cJ6_getChars_ba4f3 115 = .ok (.bipush 45, 2) := by decide +kernel
theorem k158_115 {d : Nat} {l0 l1 l2 l3 l4 l5 l6 : Option PV} {st : List PV} {M : Mem} {Q : Option PV → Mem → Prop} : WP d 158 115 [l0, l1, l2, l3, l4, l5, l6] (st) M Q = WP d 158 117 [l0, l1, l2, l3, l4, l5, l6] (vi 45 :: st) M Q := w_bipush mC_158 d158_115 (by decide)
theorem d158_117 : decode cJ6_getChars_ba4f3 117 = .ok (.bastore, 1) := by decide +kernel
theorem k158_117 {d : Nat} {l0 l1 l2 l3 l4 l5 l6 : Option PV} {st : List PV} {M : Mem} {Q : Option PV → Mem → Prop} {r : Nat} {j x : Int32} (hk : mK M r = 18) (hj : inb j (mN M r)) : WP d 158 117 [l0, l1, l2, l3, l4, l5, l6] (vi x :: vi j :: vr r :: st) M Q = WP d 158 118 [l0, l1, l2, l3, l4, l5, l6] (st) (sI M r (ix j) (byV x)) Q := w_bast mC_158 d158_117 hk hj
theorem d158_118 : decode cJ6_getChars_ba4f3 118 = .ok (.iload 5, 2) := by decide +kernel
theorem k158_118 {d : Nat} {x : Int32} {l0 l1 l2 l3 l4 l6 : Option PV} {st : List PV} {M : Mem} {Q : Option PV → Mem → Prop} : WP d 158 118 [l0, l1, l2, l3, l4, some (vi x), l6] (st) M Q = WP d 158 120 [l0, l1, l2, l3, l4, some (vi x), l6] (vi x :: st) M Q := w1 mC_158 d158_118 rfl rfl
theorem d158_120 : decode cJ6_getChars_ba4f3 120 = .ok (.ireturn, 1) := by decide +kernel
theorem k158_120 {d : Nat} {l0 l1 l2 l3 l4 l5 l6 : Option PV} {M : Mem} {Q : Option PV → Mem → Prop} {x : Int32} : WP d 158 120 [l0, l1, l2, l3, l4, l5, l6] ([vi x]) M Q = Q (some (vi x)) M := w_iret mC_158 d158_120 rfl
theorem d159_0 : decode cJ6_stringSize_0f7a4 0 = .ok (.iconst 1, 1) := by decide +kernel
theorem k159_0 {d : Nat} {l0 l1 l2 l3 : Option PV} {st : List PV} {M : Mem} {Q : Option PV → Mem → Prop} : WP d 159 0 [l0, l1, l2, l3] (st) M Q = WP d 159 1 [l0, l1, l2, l3] (vi 1 :: st) M Q := w_iconst mC_159 d159_0 (by decide)
theorem d159_1 : decode cJ6_stringSize_0f7a4 1 = .ok (.istore_n 1, 1) := by decide +kernel
theorem k159_1 {d : Nat} {l0 l1 l2 l3 : Option PV} {st : List PV} {M : Mem} {Q : Option PV → Mem → Prop} {x : Int32} : WP d 159 1 [l0, l1, l2, l3] (vi x :: st) M Q = WP d 159 2 [l0, some (vi x), l2, l3] (st) M Q := w1 mC_159 d159_1 rfl rfl
theorem d159_2 : decode cJ6_stringSize_0f7a4 2 = .ok (.iload_n 0, 1) := by decide +kernel
theorem k159_2 {d : Nat} {x : Int32} {l1 l2 l3 : Option PV} {st : List PV} {M : Mem} {Q : Option PV → Mem → Prop} : WP d 159 2 [some (vi x), l1, l2, l3] (st) M Q = WP d 159 3 [some (vi x), l1, l2, l3] (vi x :: st) M Q := w1 mC_159 d159_2 rfl rfl
theorem d159_3 : decode cJ6_stringSize_0f7a4 3 = .ok (.ifCond .lt 8, 3) := by decide +kernel
theorem k159_3 {d : Nat} {l0 l1 l2 l3 : Option PV} {st : List PV} {M : Mem} {Q : Option PV → Mem → Prop} {x : Int32} : WP d 159 3 [l0, l1, l2, l3] (vi x :: st) M Q = (if x < 0 then WP d 159 11 [l0, l1, l2, l3] (st) M Q else WP d 159 6 [l0, l1, l2, l3] (st) M Q) := w_if_lt mC_159 d159_3 (by decide)
theorem d159_6 : decode cJ6_stringSize_0f7a4 6 = .ok (.iconst 0, 1) := by decide +kernel
theorem k159_6 {d : Nat} {l0 l1 l2 l3 : Option PV} {st : List PV} {M : Mem} {Q : Option PV → Mem → Prop} : WP d 159 6 [l0, l1, l2, l3] (st) M Q = WP d 159 7 [l0, l1, l2, l3] (vi 0 :: st) M Q := w_iconst mC_159 d159_6 (by decide)
theorem d159_7 : decode cJ6_stringSize_0f7a4 7 = .ok (.istore_n 1, 1) := by decide +kernel
theorem k159_7 {d : Nat} {l0 l1 l2 l3 : Option PV} {st : List PV} {M : Mem} {Q : Option PV → Mem → Prop} {x : Int32} : WP d 159 7 [l0, l1, l2, l3] (vi x :: st) M Q = WP d 159 8 [l0, some (vi x), l2, l3] (st) M Q := w1 mC_159 d159_7 rfl rfl
theorem d159_8 : decode cJ6_stringSize_0f7a4 8 = .ok (.iload_n 0, 1) := by decide +kernel
theorem k159_8 {d : Nat} {x : Int32} {l1 l2 l3 : Option PV} {st : List PV} {M : Mem} {Q : Option PV → Mem → Prop} : WP d 159 8 [some (vi x), l1, l2, l3] (st) M Q = WP d 159 9 [some (vi x), l1, l2, l3] (vi x :: st) M Q := w1 mC_159 d159_8 rfl rfl
theorem d159_9 : decode cJ6_stringSize_0f7a4 9 = .ok (.ineg, 1) := by decide +kernel
theorem k159_9 {d : Nat} {l0 l1 l2 l3 : Option PV} {st : List PV} {M : Mem} {Q : Option PV → Mem → Prop} {x : Int32} : WP d 159 9 [l0, l1, l2, l3] (vi x :: st) M Q = WP d 159 10 [l0, l1, l2, l3] (vi (-x) :: st) M Q := w1 mC_159 d159_9 rfl rfl
theorem d159_10 : decode cJ6_stringSize_0f7a4 10 = .ok (.istore_n 0, 1) := by decide +kernel
theorem k159_10 {d : Nat} {l0 l1 l2 l3 : Option PV} {st : List PV} {M : Mem} {Q : Option PV → Mem → Prop} {x : Int32} : WP d 159 10 [l0, l1, l2, l3] (vi x :: st) M Q = WP d 159 11 [some (vi x), l1, l2, l3] (st) M Q := w1 mC_159 d159_10 rfl rfl
theorem d159_11 : decode cJ6_stringSize_0f7a4 11 = .ok (.bipush (-10), 2) := by decide +kernel
theorem k159_11 {d : Nat} {l0 l1 l2 l3 : Option PV} {st : List PV} {M : Mem} {Q : Option PV → Mem → Prop} : WP d 159 11 [l0, l1, l2, l3] (st) M Q = WP d 159 13 [l0, l1, l2, l3] (vi (-10) :: st) M Q := w_bipush mC_159 d159_11 (by decide)
theorem d159_13 : decode cJ6_stringSize_0f7a4 13 = .ok (.istore_n 2, 1) := by decide +kernel
theorem k159_13 {d : Nat} {l0 l1 l2 l3 : Option PV} {st : List PV} {M : Mem} {Q : Option PV → Mem → Prop} {x : Int32} : WP d 159 13 [l0, l1, l2, l3] (vi x :: st) M Q = WP d 159 14 [l0, l1, some (vi x), l3] (st) M Q := w1 mC_159 d159_13 rfl rfl
theorem d159_14 : decode cJ6_stringSize_0f7a4 14 = .ok (.iconst 1, 1) := by decide +kernel
theorem k159_14 {d : Nat} {l0 l1 l2 l3 : Option PV} {st : List PV} {M : Mem} {Q : Option PV → Mem → Prop} : WP d 159 14 [l0, l1, l2, l3] (st) M Q = WP d 159 15 [l0, l1, l2, l3] (vi 1 :: st) M Q := w_iconst mC_159 d159_14 (by decide)
theorem d159_15 : decode cJ6_stringSize_0f7a4 15 = .ok (.istore_n 3, 1) := by decide +kernel
theorem k159_15 {d : Nat} {l0 l1 l2 l3 : Option PV} {st : List PV} {M : Mem} {Q : Option PV → Mem → Prop} {x : Int32} : WP d 159 15 [l0, l1, l2, l3] (vi x :: st) M Q = WP d 159 16 [l0, l1, l2, some (vi x)] (st) M Q := w1 mC_159 d159_15 rfl rfl
theorem d159_16 : decode cJ6_stringSize_0f7a4 16 = .ok (.iload_n 3, 1) := by decide +kernel
theorem k159_16 {d : Nat} {x : Int32} {l0 l1 l2 : Option PV} {st : List PV} {M : Mem} {Q : Option PV → Mem → Prop} : WP d 159 16 [l0, l1, l2, some (vi x)] (st) M Q = WP d 159 17 [l0, l1, l2, some (vi x)] (vi x :: st) M Q := w1 mC_159 d159_16 rfl rfl
theorem d159_17 : decode cJ6_stringSize_0f7a4 17 = .ok (.bipush 10, 2) := by decide +kernel
theorem k159_17 {d : Nat} {l0 l1 l2 l3 : Option PV} {st : List PV} {M : Mem} {Q : Option PV → Mem → Prop} : WP d 159 17 [l0, l1, l2, l3] (st) M Q = WP d 159 19 [l0, l1, l2, l3] (vi 10 :: st) M Q := w_bipush mC_159 d159_17 (by decide)
theorem d159_19 : decode cJ6_stringSize_0f7a4 19 = .ok (.if_icmp .ge 23, 3) := by decide +kernel
theorem k159_19 {d : Nat} {l0 l1 l2 l3 : Option PV} {st : List PV} {M : Mem} {Q : Option PV → Mem → Prop} {x y : Int32} : WP d 159 19 [l0, l1, l2, l3] (vi y :: vi x :: st) M Q = (if y ≤ x then WP d 159 42 [l0, l1, l2, l3] (st) M Q else WP d 159 22 [l0, l1, l2, l3] (st) M Q) := w_ic_ge mC_159 d159_19 (by decide)
theorem d159_22 : decode cJ6_stringSize_0f7a4 22 = .ok (.iload_n 0, 1) := by decide +kernel
theorem k159_22 {d : Nat} {x : Int32} {l1 l2 l3 : Option PV} {st : List PV} {M : Mem} {Q : Option PV → Mem → Prop} : WP d 159 22 [some (vi x), l1, l2, l3] (st) M Q = WP d 159 23 [some (vi x), l1, l2, l3] (vi x :: st) M Q := w1 mC_159 d159_22 rfl rfl
theorem d159_23 : decode cJ6_stringSize_0f7a4 23 = .ok (.iload_n 2, 1) := by decide +kernel
theorem k159_23 {d : Nat} {x : Int32} {l0 l1 l3 : Option PV} {st : List PV} {M : Mem} {Q : Option PV → Mem → Prop} : WP d 159 23 [l0, l1, some (vi x), l3] (st) M Q = WP d 159 24 [l0, l1, some (vi x), l3] (vi x :: st) M Q := w1 mC_159 d159_23 rfl rfl
theorem d159_24 : decode cJ6_stringSize_0f7a4 24 = .ok (.if_icmp .le 7, 3) := by decide +kernel
theorem k159_24 {d : Nat} {l0 l1 l2 l3 : Option PV} {st : List PV} {M : Mem} {Q : Option PV → Mem → Prop} {x y : Int32} : WP d 159 24 [l0, l1, l2, l3] (vi y :: vi x :: st) M Q = (if x ≤ y then WP d 159 31 [l0, l1, l2, l3] (st) M Q else WP d 159 27 [l0, l1, l2, l3] (st) M Q) := w_ic_le mC_159 d159_24 (by decide)
theorem d159_27 : decode cJ6_stringSize_0f7a4 27 = .ok (.iload_n 3, 1) := by decide +kernel
theorem k159_27 {d : Nat} {x : Int32} {l0 l1 l2 : Option PV} {st : List PV} {M : Mem} {Q : Option PV → Mem → Prop} : WP d 159 27 [l0, l1, l2, some (vi x)] (st) M Q = WP d 159 28 [l0, l1, l2, some (vi x)] (vi x :: st) M Q := w1 mC_159 d159_27 rfl rfl
theorem d159_28 : decode cJ6_stringSize_0f7a4 28 = .ok (.iload_n 1, 1) := by decide +kernel
theorem k159_28 {d : Nat} {x : Int32} {l0 l2 l3 : Option PV} {st : List PV} {M : Mem} {Q : Option PV → Mem → Prop} : WP d 159 28 [l0, some (vi x), l2, l3] (st) M Q = WP d 159 29 [l0, some (vi x), l2, l3] (vi x :: st) M Q := w1 mC_159 d159_28 rfl rfl
theorem d159_29 : decode cJ6_stringSize_0f7a4 29 = .ok (.iadd, 1) := by decide +kernel
theorem k159_29 {d : Nat} {l0 l1 l2 l3 : Option PV} {st : List PV} {M : Mem} {Q : Option PV → Mem → Prop} {x y : Int32} : WP d 159 29 [l0, l1, l2, l3] (vi y :: vi x :: st) M Q = WP d 159 30 [l0, l1, l2, l3] (vi (x + y) :: st) M Q := w1 mC_159 d159_29 rfl rfl
theorem d159_30 : decode cJ6_stringSize_0f7a4 30 = .ok (.ireturn, 1) := by decide +kernel
theorem k159_30 {d : Nat} {l0 l1 l2 l3 : Option PV} {M : Mem} {Q : Option PV → Mem → Prop} {x : Int32} : WP d 159 30 [l0, l1, l2, l3] ([vi x]) M Q = Q (some (vi x)) M := w_iret mC_159 d159_30 rfl
theorem d159_31 : decode cJ6_stringSize_0f7a4 31 = .ok (.bipush 10, 2) := by decide +kernel
theorem k159_31 {d : Nat} {l0 l1 l2 l3 : Option PV} {st : List PV} {M : Mem} {Q : Option PV → Mem → Prop} : WP d 159 31 [l0, l1, l2, l3] (st) M Q = WP d 159 33 [l0, l1, l2, l3] (vi 10 :: st) M Q := w_bipush mC_159 d159_31 (by decide)
theorem d159_33 : decode cJ6_stringSize_0f7a4 33 = .ok (.iload_n 2, 1) := by decide +kernel
theorem k159_33 {d : Nat} {x : Int32} {l0 l1 l3 : Option PV} {st : List PV} {M : Mem} {Q : Option PV → Mem → Prop} : WP d 159 33 [l0, l1, some (vi x), l3] (st) M Q = WP d 159 34 [l0, l1, some (vi x), l3] (vi x :: st) M Q := w1 mC_159 d159_33 rfl rfl
theorem d159_34 : decode cJ6_stringSize_0f7a4 34 = .ok (.imul, 1) := by decide +kernel
theorem k159_34 {d : Nat} {l0 l1 l2 l3 : Option PV} {st : List PV} {M : Mem} {Q : Option PV → Mem → Prop} {x y : Int32} : WP d 159 34 [l0, l1, l2, l3] (vi y :: vi x :: st) M Q = WP d 159 35 [l0, l1, l2, l3] (vi (x * y) :: st) M Q := w1 mC_159 d159_34 rfl rfl
theorem d159_35 : decode cJ6_stringSize_0f7a4 35 = .ok (.istore_n 2, 1) := by decide +kernel
theorem k159_35 {d : Nat} {l0 l1 l2 l3 : Option PV} {st : List PV} {M : Mem} {Q : Option PV → Mem → Prop} {x : Int32} : WP d 159 35 [l0, l1, l2, l3] (vi x :: st) M Q = WP d 159 36 [l0, l1, some (vi x), l3] (st) M Q := w1 mC_159 d159_35 rfl rfl
theorem d159_36 : decode cJ6_stringSize_0f7a4 36 = .ok (.iinc 3 1, 3) := by decide +kernel
theorem k159_36 {d : Nat} {x : Int32} {l0 l1 l2 : Option PV} {st : List PV} {M : Mem} {Q : Option PV → Mem → Prop} : WP d 159 36 [l0, l1, l2, some (vi x)] (st) M Q = WP d 159 39 [l0, l1, l2, some (vi (x + 1))] (st) M Q := w_iinc mC_159 d159_36 rfl (by decide) rfl
theorem d159_39 : decode cJ6_stringSize_0f7a4 39 = .ok (.goto (-23), 3) := by decide +kernel
theorem k159_39 {d : Nat} {l0 l1 l2 l3 : Option PV} {st : List PV} {M : Mem} {Q : Option PV → Mem → Prop} : WP d 159 39 [l0, l1, l2, l3] (st) M Q = WP d 159 16 [l0, l1, l2, l3] (st) M Q := w_goto mC_159 d159_39 (by decide)
theorem d159_42 : decode cJ6_stringSize_0f7a4 42 = .ok (.bipush 10, 2) := by decide +kernel
theorem k159_42 {d : Nat} {l0 l1 l2 l3 : Option PV} {st : List PV} {M : Mem} {Q : Option PV → Mem → Prop} : WP d 159 42 [l0, l1, l2, l3] (st) M Q = WP d 159 44 [l0, l1, l2, l3] (vi 10 :: st) M Q := w_bipush mC_159 d159_42 (by decide)
theorem d159_44 : decode cJ6_stringSize_0f7a4 44 = .ok (.iload_n 1, 1) := by decide +kernel
theorem k159_44 {d : Nat} {x : Int32} {l0 l2 l3 : Option PV} {st : List PV} {M : Mem} {Q : Option PV → Mem → Prop} : WP d 159 44 [l0, some (vi x), l2, l3] (st) M Q = WP d 159 45 [l0, some (vi x), l2, l3] (vi x :: st) M Q := w1 mC_159 d159_44 rfl rfl
theorem d159_45 : decode cJ6_stringSize_0f7a4 45 = .ok (.iadd, 1) := by decide +kernel
theorem k159_45 {d : Nat} {l0 l1 l2 l3 : Option PV} {st : List PV} {M : Mem} {Q : Option PV → Mem → Prop} {x y : Int32} : WP d 159 45 [l0, l1, l2, l3] (vi y :: vi x :: st) M Q = WP d 159 46 [l0, l1, l2, l3] (vi (x + y) :: st) M Q := w1 mC_159 d159_45 rfl rfl
theorem d159_46 : decode cJ6_stringSize_0f7a4 46 = .ok (.ireturn, 1) := by decide +kernel
theorem k159_46 {d : Nat} {l0 l1 l2 l3 : Option PV} {M : Mem} {Q : Option PV → Mem → Prop} {x : Int32} : WP d 159 46 [l0, l1, l2, l3] ([vi x]) M Q = Q (some (vi x)) M := w_iret mC_159 d159_46 rfl
theorem d160_0 : decode cJ0_init_81219 0 = .ok (.aload_n 0, 1) := by decide +kernel
theorem k160_0 {d x : Nat} {l1 : Option PV} {st : List PV} {M : Mem} {Q : Option PV → Mem → Prop} : WP d 160 0 [some (vr x), l1] (st) M Q = WP d 160 1 [some (vr x), l1] (vr x :: st) M Q := w1 mC_160 d160_0 rfl rfl
theorem d160_1 : decode cJ0_init_81219 1 = .ok (.aload_n 1, 1) := by decide +kernel
theorem k160_1 {d x : Nat} {l0 : Option PV} {st : List PV} {M : Mem} {Q : Option PV → Mem → Prop} : WP d 160 1 [l0, some (vr x)] (st) M Q = WP d 160 2 [l0, some (vr x)] (vr x :: st) M Q := w1 mC_160 d160_1 rfl rfl
theorem d160_2 : decode cJ0_init_81219 2 = .ok (.aconst_null, 1) := by decide +kernel
theorem k160_2 {d : Nat} {l0 l1 : Option PV} {st : List PV} {M : Mem} {Q : Option PV → Mem → Prop} : WP d 160 2 [l0, l1] (st) M Q = WP d 160 3 [l0, l1] (vr 0 :: st) M Q := w1 mC_160 d160_2 rfl rfl
theorem d160_3 : decode cJ0_init_81219 3 = .ok (.invokespecial 489, 3) := by decide +kernel
theorem k160_3 {d : Nat} {l0 l1 : Option PV} {st : List PV} {M : Mem} {Q : Option PV → Mem → Prop} {a0 a1 : Nat} {r : Nat} (hl : szL st ≤ 8) (hk : mK M r < 13) : WP (d + 1) 160 3 [l0, l1] (vr a1 :: vr a0 :: vr r :: st) M Q = WP d 164 0 [some (vr r), some (vr a0), some (vr a1), none, none] [] M (fun v M' => WP (d + 1) 160 6 [l0, l1] (psh v st) M' Q) := w_callI mC_160 d160_3 rfl rfl (Nat.le_of_ble_eq_true rfl) (by decide) rfl hl hk
theorem d160_6 : decode cJ0_init_81219 6 = .ok (.return_, 1) := by decide +kernel
theorem k160_6 {d : Nat} {l0 l1 : Option PV} {M : Mem} {Q : Option PV → Mem → Prop} : WP d 160 6 [l0, l1] ([]) M Q = Q none M := w_vret mC_160 d160_6 rfl
theorem d161_0 : decode cJ0_length_8abf5 0 = .ok (.aload_n 0, 1) := by decide +kernel
theorem k161_0 {d x : Nat} {st : List PV} {M : Mem} {Q : Option PV → Mem → Prop} : WP d 161 0 [some (vr x)] (st) M Q = WP d 161 1 [some (vr x)] (vr x :: st) M Q := w1 mC_161 d161_0 rfl rfl
theorem d161_1 : decode cJ0_length_8abf5 1 = .ok (.getfield 9, 3) := by decide +kernel
theorem k161_1 {d : Nat} {l0 : Option PV} {st : List PV} {M : Mem} {Q : Option PV → Mem → Prop} {r : Nat} (hk : okG 1 (mK M r) = true) : WP d 161 1 [l0] (vr r :: st) M Q = WP d 161 4 [l0] (vr (mR M r 0) :: st) M Q := w_getr mC_161 d161_1 fE_1_9 rfl hk
theorem d161_4 : decode cJ0_length_8abf5 4 = .ok (.arraylength, 1) := by decide +kernel
theorem k161_4 {d : Nat} {l0 : Option PV} {st : List PV} {M : Mem} {Q : Option PV → Mem → Prop} {r : Nat} (hk : 13 ≤ mK M r ∧ mK M r ≤ 19) : WP d 161 4 [l0] (vr r :: st) M Q = WP d 161 5 [l0] (vi (Int32.ofNat (mN M r)) :: st) M Q := w_alen mC_161 d161_4 hk
theorem d161_5 : decode cJ0_length_8abf5 5 = .ok (.aload_n 0, 1) := by decide +kernel
theorem k161_5 {d x : Nat} {st : List PV} {M : Mem} {Q : Option PV → Mem → Prop} : WP d 161 5 [some (vr x)] (st) M Q = WP d 161 6 [some (vr x)] (vr x :: st) M Q := w1 mC_161 d161_5 rfl rfl
theorem d161_6 : decode cJ0_length_8abf5 6 = .ok (.invokevirtual 335, 3) := by decide +kernel
theorem k161_6 {d : Nat} {l0 : Option PV} {st : List PV} {M : Mem} {Q : Option PV → Mem → Prop} {r : Nat} (hl : szL st ≤ 8) (hk : mK M r = 1 ∨ (mK M r = 20 ∧ 1 = 1)) : WP (d + 1) 161 6 [l0] (vr r :: st) M Q = WP d 165 0 [some (vr r)] [] M (fun v M' => WP (d + 1) 161 9 [l0] (psh v st) M' Q) := w_callV mC_161 d161_6 (ci := 1) rfl rfl rfl (Nat.le_of_ble_eq_true rfl) (by decide) rfl hl hk
theorem d161_9 : decode cJ0_length_8abf5 9 = .ok (.ishr, 1) := by decide +kernel
theorem k161_9 {d : Nat} {l0 : Option PV} {st : List PV} {M : Mem} {Q : Option PV → Mem → Prop} {x y : Int32} : WP d 161 9 [l0] (vi y :: vi x :: st) M Q = WP d 161 10 [l0] (vi (x >>> (y &&& 31)) :: st) M Q := w1 mC_161 d161_9 rfl rfl
theorem d161_10 : decode cJ0_length_8abf5 10 = .ok (.ireturn, 1) := by decide +kernel
theorem k161_10 {d : Nat} {l0 : Option PV} {M : Mem} {Q : Option PV → Mem → Prop} {x : Int32} : WP d 161 10 [l0] ([vi x]) M Q = Q (some (vi x)) M := w_iret mC_161 d161_10 rfl
theorem d162_0 : decode cJ0_charAt_5068e 0 = .ok (.aload_n 0, 1) := by decide +kernel
theorem k162_0 {d x : Nat} {l1 : Option PV} {st : List PV} {M : Mem} {Q : Option PV → Mem → Prop} : WP d 162 0 [some (vr x), l1] (st) M Q = WP d 162 1 [some (vr x), l1] (vr x :: st) M Q := w1 mC_162 d162_0 rfl rfl
theorem d162_1 : decode cJ0_charAt_5068e 1 = .ok (.invokevirtual 492, 3) := by decide +kernel
theorem k162_1 {d : Nat} {l0 l1 : Option PV} {st : List PV} {M : Mem} {Q : Option PV → Mem → Prop} {r : Nat} (hl : szL st ≤ 8) (hk : mK M r = 1 ∨ (mK M r = 20 ∧ 1 = 1)) : WP (d + 1) 162 1 [l0, l1] (vr r :: st) M Q = WP d 166 0 [some (vr r)] [] M (fun v M' => WP (d + 1) 162 4 [l0, l1] (psh v st) M' Q) := w_callV mC_162 d162_1 (ci := 1) rfl rfl rfl (Nat.le_of_ble_eq_true rfl) (by decide) rfl hl hk
theorem d162_4 : decode cJ0_charAt_5068e 4 = .ok (.ifCond .eq 12, 3) := by decide +kernel
theorem k162_4 {d : Nat} {l0 l1 : Option PV} {st : List PV} {M : Mem} {Q : Option PV → Mem → Prop} {x : Int32} : WP d 162 4 [l0, l1] (vi x :: st) M Q = (if x = 0 then WP d 162 16 [l0, l1] (st) M Q else WP d 162 7 [l0, l1] (st) M Q) := w_if_eq mC_162 d162_4 (by decide)
theorem d162_7 : decode cJ0_charAt_5068e 7 = .ok (.aload_n 0, 1) := by decide +kernel
theorem k162_7 {d x : Nat} {l1 : Option PV} {st : List PV} {M : Mem} {Q : Option PV → Mem → Prop} : WP d 162 7 [some (vr x), l1] (st) M Q = WP d 162 8 [some (vr x), l1] (vr x :: st) M Q := w1 mC_162 d162_7 rfl rfl
theorem d162_8 : decode cJ0_charAt_5068e 8 = .ok (.getfield 9, 3) := by decide +kernel
theorem k162_8 {d : Nat} {l0 l1 : Option PV} {st : List PV} {M : Mem} {Q : Option PV → Mem → Prop} {r : Nat} (hk : okG 1 (mK M r) = true) : WP d 162 8 [l0, l1] (vr r :: st) M Q = WP d 162 11 [l0, l1] (vr (mR M r 0) :: st) M Q := w_getr mC_162 d162_8 fE_1_9 rfl hk
theorem d162_11 : decode cJ0_charAt_5068e 11 = .ok (.iload_n 1, 1) := by decide +kernel
theorem k162_11 {d : Nat} {x : Int32} {l0 : Option PV} {st : List PV} {M : Mem} {Q : Option PV → Mem → Prop} : WP d 162 11 [l0, some (vi x)] (st) M Q = WP d 162 12 [l0, some (vi x)] (vi x :: st) M Q := w1 mC_162 d162_11 rfl rfl
theorem d162_12 : decode cJ0_charAt_5068e 12 = .ok (.invokestatic 495, 3) := by decide +kernel
theorem k162_12 {d : Nat} {l0 l1 : Option PV} {st : List PV} {M : Mem} {Q : Option PV → Mem → Prop} {a1 : Int32} {a0 : Nat} (hl : szL st ≤ 8) : WP (d + 1) 162 12 [l0, l1] (vi a1 :: vr a0 :: st) M Q = WP d 174 0 [some (vr a0), some (vi a1)] [] M (fun v M' => WP (d + 1) 162 15 [l0, l1] (psh v st) M' Q) := w_callS mC_162 d162_12 rfl rfl (Nat.le_of_ble_eq_true rfl) (by decide) rfl hl
theorem d162_15 : decode cJ0_charAt_5068e 15 = .ok (.ireturn, 1) := by decide +kernel
theorem k162_15 {d : Nat} {l0 l1 : Option PV} {M : Mem} {Q : Option PV → Mem → Prop} {x : Int32} (hx : x.toUInt32.toUInt16.toUInt32.toInt32 = x) : WP d 162 15 [l0, l1] ([vi x]) M Q = Q (some (vi x)) M := w_cret mC_162 d162_15 rfl hx
theorem d162_16 : decode cJ0_charAt_5068e 16 = .ok (.aload_n 0, 1) := by decide +kernel
theorem k162_16 {d x : Nat} {l1 : Option PV} {st : List PV} {M : Mem} {Q : Option PV → Mem → Prop} : WP d 162 16 [some (vr x), l1] (st) M Q = WP d 162 17 [some (vr x), l1] (vr x :: st) M Q := w1 mC_162 d162_16 rfl rfl
theorem d162_17 : decode cJ0_charAt_5068e 17 = .ok (.getfield 9, 3) := by decide +kernel
theorem k162_17 {d : Nat} {l0 l1 : Option PV} {st : List PV} {M : Mem} {Q : Option PV → Mem → Prop} {r : Nat} (hk : okG 1 (mK M r) = true) : WP d 162 17 [l0, l1] (vr r :: st) M Q = WP d 162 20 [l0, l1] (vr (mR M r 0) :: st) M Q := w_getr mC_162 d162_17 fE_1_9 rfl hk
theorem d162_20 : decode cJ0_charAt_5068e 20 = .ok (.iload_n 1, 1) := by decide +kernel
theorem k162_20 {d : Nat} {x : Int32} {l0 : Option PV} {st : List PV} {M : Mem} {Q : Option PV → Mem → Prop} : WP d 162 20 [l0, some (vi x)] (st) M Q = WP d 162 21 [l0, some (vi x)] (vi x :: st) M Q := w1 mC_162 d162_20 rfl rfl
theorem d162_24 : decode cJ0_charAt_5068e 24 = .ok (.ireturn, 1) := by decide +kernel
theorem k162_24 {d : Nat} {l0 l1 : Option PV} {M : Mem} {Q : Option PV → Mem → Prop} {x : Int32} (hx : x.toUInt32.toUInt16.toUInt32.toInt32 = x) : WP d 162 24 [l0, l1] ([vi x]) M Q = Q (some (vi x)) M := w_cret mC_162 d162_24 rfl hx
theorem d163_0 : decode cJ0_getBytes_840e7 0 = .ok (.aload_n 0, 1) := by decide +kernel
theorem k163_0 {d x : Nat} {l1 l2 l3 : Option PV} {st : List PV} {M : Mem} {Q : Option PV → Mem → Prop} : WP d 163 0 [some (vr x), l1, l2, l3] (st) M Q = WP d 163 1 [some (vr x), l1, l2, l3] (vr x :: st) M Q := w1 mC_163 d163_0 rfl rfl
theorem d163_1 : decode cJ0_getBytes_840e7 1 = .ok (.invokevirtual 335, 3) := by decide +kernel
theorem k163_1 {d : Nat} {l0 l1 l2 l3 : Option PV} {st : List PV} {M : Mem} {Q : Option PV → Mem → Prop} {r : Nat} (hl : szL st ≤ 8) (hk : mK M r = 1 ∨ (mK M r = 20 ∧ 1 = 1)) : WP (d + 1) 163 1 [l0, l1, l2, l3] (vr r :: st) M Q = WP d 165 0 [some (vr r)] [] M (fun v M' => WP (d + 1) 163 4 [l0, l1, l2, l3] (psh v st) M' Q) := w_callV mC_163 d163_1 (ci := 1) rfl rfl rfl (Nat.le_of_ble_eq_true rfl) (by decide) rfl hl hk
theorem d163_4 : decode cJ0_getBytes_840e7 4 = .ok (.iload_n 3, 1) := by decide +kernel
theorem k163_4 {d : Nat} {x : Int32} {l0 l1 l2 : Option PV} {st : List PV} {M : Mem} {Q : Option PV → Mem → Prop} : WP d 163 4 [l0, l1, l2, some (vi x)] (st) M Q = WP d 163 5 [l0, l1, l2, some (vi x)] (vi x :: st) M Q := w1 mC_163 d163_4 rfl rfl
theorem d163_5 : decode cJ0_getBytes_840e7 5 = .ok (.if_icmp .ne 23, 3) := by decide +kernel
theorem k163_5 {d : Nat} {l0 l1 l2 l3 : Option PV} {st : List PV} {M : Mem} {Q : Option PV → Mem → Prop} {x y : Int32} : WP d 163 5 [l0, l1, l2, l3] (vi y :: vi x :: st) M Q = (if x = y then WP d 163 8 [l0, l1, l2, l3] (st) M Q else WP d 163 28 [l0, l1, l2, l3] (st) M Q) := w_ic_ne mC_163 d163_5 (by decide)
theorem d163_8 : decode cJ0_getBytes_840e7 8 = .ok (.aload_n 0, 1) := by decide +kernel
theorem k163_8 {d x : Nat} {l1 l2 l3 : Option PV} {st : List PV} {M : Mem} {Q : Option PV → Mem → Prop} : WP d 163 8 [some (vr x), l1, l2, l3] (st) M Q = WP d 163 9 [some (vr x), l1, l2, l3] (vr x :: st) M Q := w1 mC_163 d163_8 rfl rfl
theorem d163_9 : decode cJ0_getBytes_840e7 9 = .ok (.getfield 9, 3) := by decide +kernel
theorem k163_9 {d : Nat} {l0 l1 l2 l3 : Option PV} {st : List PV} {M : Mem} {Q : Option PV → Mem → Prop} {r : Nat} (hk : okG 1 (mK M r) = true) : WP d 163 9 [l0, l1, l2, l3] (vr r :: st) M Q = WP d 163 12 [l0, l1, l2, l3] (vr (mR M r 0) :: st) M Q := w_getr mC_163 d163_9 fE_1_9 rfl hk
theorem d163_12 : decode cJ0_getBytes_840e7 12 = .ok (.iconst 0, 1) := by decide +kernel
theorem k163_12 {d : Nat} {l0 l1 l2 l3 : Option PV} {st : List PV} {M : Mem} {Q : Option PV → Mem → Prop} : WP d 163 12 [l0, l1, l2, l3] (st) M Q = WP d 163 13 [l0, l1, l2, l3] (vi 0 :: st) M Q := w_iconst mC_163 d163_12 (by decide)
theorem d163_13 : decode cJ0_getBytes_840e7 13 = .ok (.aload_n 1, 1) := by decide +kernel
theorem k163_13 {d x : Nat} {l0 l2 l3 : Option PV} {st : List PV} {M : Mem} {Q : Option PV → Mem → Prop} : WP d 163 13 [l0, some (vr x), l2, l3] (st) M Q = WP d 163 14 [l0, some (vr x), l2, l3] (vr x :: st) M Q := w1 mC_163 d163_13 rfl rfl
theorem d163_14 : decode cJ0_getBytes_840e7 14 = .ok (.iload_n 2, 1) := by decide +kernel
theorem k163_14 {d : Nat} {x : Int32} {l0 l1 l3 : Option PV} {st : List PV} {M : Mem} {Q : Option PV → Mem → Prop} : WP d 163 14 [l0, l1, some (vi x), l3] (st) M Q = WP d 163 15 [l0, l1, some (vi x), l3] (vi x :: st) M Q := w1 mC_163 d163_14 rfl rfl
theorem d163_15 : decode cJ0_getBytes_840e7 15 = .ok (.iload_n 3, 1) := by decide +kernel
theorem k163_15 {d : Nat} {x : Int32} {l0 l1 l2 : Option PV} {st : List PV} {M : Mem} {Q : Option PV → Mem → Prop} : WP d 163 15 [l0, l1, l2, some (vi x)] (st) M Q = WP d 163 16 [l0, l1, l2, some (vi x)] (vi x :: st) M Q := w1 mC_163 d163_15 rfl rfl
theorem d163_16 : decode cJ0_getBytes_840e7 16 = .ok (.ishl, 1) := by decide +kernel
theorem k163_16 {d : Nat} {l0 l1 l2 l3 : Option PV} {st : List PV} {M : Mem} {Q : Option PV → Mem → Prop} {x y : Int32} : WP d 163 16 [l0, l1, l2, l3] (vi y :: vi x :: st) M Q = WP d 163 17 [l0, l1, l2, l3] (vi (x <<< (y &&& 31)) :: st) M Q := w1 mC_163 d163_16 rfl rfl
theorem d163_17 : decode cJ0_getBytes_840e7 17 = .ok (.aload_n 0, 1) := by decide +kernel
theorem k163_17 {d x : Nat} {l1 l2 l3 : Option PV} {st : List PV} {M : Mem} {Q : Option PV → Mem → Prop} : WP d 163 17 [some (vr x), l1, l2, l3] (st) M Q = WP d 163 18 [some (vr x), l1, l2, l3] (vr x :: st) M Q := w1 mC_163 d163_17 rfl rfl
theorem d163_18 : decode cJ0_getBytes_840e7 18 = .ok (.getfield 9, 3) := by decide +kernel
theorem k163_18 {d : Nat} {l0 l1 l2 l3 : Option PV} {st : List PV} {M : Mem} {Q : Option PV → Mem → Prop} {r : Nat} (hk : okG 1 (mK M r) = true) : WP d 163 18 [l0, l1, l2, l3] (vr r :: st) M Q = WP d 163 21 [l0, l1, l2, l3] (vr (mR M r 0) :: st) M Q := w_getr mC_163 d163_18 fE_1_9 rfl hk
theorem d163_21 : decode cJ0_getBytes_840e7 21 = .ok (.arraylength, 1) := by decide +kernel
theorem k163_21 {d : Nat} {l0 l1 l2 l3 : Option PV} {st : List PV} {M : Mem} {Q : Option PV → Mem → Prop} {r : Nat} (hk : 13 ≤ mK M r ∧ mK M r ≤ 19) : WP d 163 21 [l0, l1, l2, l3] (vr r :: st) M Q = WP d 163 22 [l0, l1, l2, l3] (vi (Int32.ofNat (mN M r)) :: st) M Q := w_alen mC_163 d163_21 hk
theorem d163_22 : decode cJ0_getBytes_840e7 22 = .ok (.invokestatic 212, 3) := by decide +kernel
theorem k163_22 {d : Nat} {l0 l1 l2 l3 : Option PV} {st : List PV} {M : Mem} {Q : Option PV → Mem → Prop} {a b : Nat} {sp dp q : Int32} (hl : szL st ≤ 8) (h1 : ¬ sp < 0 ∧ ¬ dp < 0 ∧ ¬ q < 0 ∧ ix sp + ix q ≤ mN M b ∧ ix dp + ix q ≤ mN M a ∧ a ≠ 1 ∧ b ≠ 1) (hk : mK M a = 13) (hk2 : mK M b = 13) : WP d 163 22 [l0, l1, l2, l3] (vi q :: vi dp :: vr a :: vi sp :: vr b :: st) M Q = WP d 163 25 [l0, l1, l2, l3] (st) (cI M b (ix sp) a (ix dp) (ix q)) Q := w_copyI mC_163 d163_22 rfl rfl rfl hl h1 hk hk2
theorem k163_22l {d : Nat} {l0 l1 l2 l3 : Option PV} {st : List PV} {M : Mem} {Q : Option PV → Mem → Prop} {a b : Nat} {sp dp q : Int32} (hl : szL st ≤ 8) (h1 : ¬ sp < 0 ∧ ¬ dp < 0 ∧ ¬ q < 0 ∧ ix sp + ix q ≤ mN M b ∧ ix dp + ix q ≤ mN M a ∧ a ≠ 1 ∧ b ≠ 1) (hk : mK M a = 14) (hk2 : mK M b = 14) : WP d 163 22 [l0, l1, l2, l3] (vi q :: vi dp :: vr a :: vi sp :: vr b :: st) M Q = WP d 163 25 [l0, l1, l2, l3] (st) (cJ M b (ix sp) a (ix dp) (ix q)) Q := w_copyJ mC_163 d163_22 rfl rfl rfl hl h1 hk hk2
theorem k163_22b {d : Nat} {l0 l1 l2 l3 : Option PV} {st : List PV} {M : Mem} {Q : Option PV → Mem → Prop} {a b : Nat} {sp dp q : Int32} (hl : szL st ≤ 8) (h1 : ¬ sp < 0 ∧ ¬ dp < 0 ∧ ¬ q < 0 ∧ ix sp + ix q ≤ mN M b ∧ ix dp + ix q ≤ mN M a ∧ a ≠ 1 ∧ b ≠ 1) (hk : mK M a = 18) (hk2 : mK M b = 18 ∨ mK M b = 19) : WP d 163 22 [l0, l1, l2, l3] (vi q :: vi dp :: vr a :: vi sp :: vr b :: st) M Q = WP d 163 25 [l0, l1, l2, l3] (st) (cI M b (ix sp) a (ix dp) (ix q)) Q := w_copyB mC_163 d163_22 rfl rfl rfl hl h1 hk hk2
theorem d163_25 : decode cJ0_getBytes_840e7 25 = .ok (.goto 18, 3) := by decide +kernel
theorem k163_25 {d : Nat} {l0 l1 l2 l3 : Option PV} {st : List PV} {M : Mem} {Q : Option PV → Mem → Prop} : WP d 163 25 [l0, l1, l2, l3] (st) M Q = WP d 163 43 [l0, l1, l2, l3] (st) M Q := w_goto mC_163 d163_25 (by decide)
theorem d163_28 : decode cJ0_getBytes_840e7 28 = .ok (.aload_n 0, 1) := by decide +kernel
theorem k163_28 {d x : Nat} {l1 l2 l3 : Option PV} {st : List PV} {M : Mem} {Q : Option PV → Mem → Prop} : WP d 163 28 [some (vr x), l1, l2, l3] (st) M Q = WP d 163 29 [some (vr x), l1, l2, l3] (vr x :: st) M Q := w1 mC_163 d163_28 rfl rfl
theorem d163_29 : decode cJ0_getBytes_840e7 29 = .ok (.getfield 9, 3) := by decide +kernel
theorem k163_29 {d : Nat} {l0 l1 l2 l3 : Option PV} {st : List PV} {M : Mem} {Q : Option PV → Mem → Prop} {r : Nat} (hk : okG 1 (mK M r) = true) : WP d 163 29 [l0, l1, l2, l3] (vr r :: st) M Q = WP d 163 32 [l0, l1, l2, l3] (vr (mR M r 0) :: st) M Q := w_getr mC_163 d163_29 fE_1_9 rfl hk
theorem d163_32 : decode cJ0_getBytes_840e7 32 = .ok (.iconst 0, 1) := by decide +kernel
theorem k163_32 {d : Nat} {l0 l1 l2 l3 : Option PV} {st : List PV} {M : Mem} {Q : Option PV → Mem → Prop} : WP d 163 32 [l0, l1, l2, l3] (st) M Q = WP d 163 33 [l0, l1, l2, l3] (vi 0 :: st) M Q := w_iconst mC_163 d163_32 (by decide)
theorem d163_33 : decode cJ0_getBytes_840e7 33 = .ok (.aload_n 1, 1) := by decide +kernel
theorem k163_33 {d x : Nat} {l0 l2 l3 : Option PV} {st : List PV} {M : Mem} {Q : Option PV → Mem → Prop} : WP d 163 33 [l0, some (vr x), l2, l3] (st) M Q = WP d 163 34 [l0, some (vr x), l2, l3] (vr x :: st) M Q := w1 mC_163 d163_33 rfl rfl
theorem d163_34 : decode cJ0_getBytes_840e7 34 = .ok (.iload_n 2, 1) := by decide +kernel
theorem k163_34 {d : Nat} {x : Int32} {l0 l1 l3 : Option PV} {st : List PV} {M : Mem} {Q : Option PV → Mem → Prop} : WP d 163 34 [l0, l1, some (vi x), l3] (st) M Q = WP d 163 35 [l0, l1, some (vi x), l3] (vi x :: st) M Q := w1 mC_163 d163_34 rfl rfl
theorem d163_35 : decode cJ0_getBytes_840e7 35 = .ok (.aload_n 0, 1) := by decide +kernel
theorem k163_35 {d x : Nat} {l1 l2 l3 : Option PV} {st : List PV} {M : Mem} {Q : Option PV → Mem → Prop} : WP d 163 35 [some (vr x), l1, l2, l3] (st) M Q = WP d 163 36 [some (vr x), l1, l2, l3] (vr x :: st) M Q := w1 mC_163 d163_35 rfl rfl
theorem d163_36 : decode cJ0_getBytes_840e7 36 = .ok (.getfield 9, 3) := by decide +kernel
theorem k163_36 {d : Nat} {l0 l1 l2 l3 : Option PV} {st : List PV} {M : Mem} {Q : Option PV → Mem → Prop} {r : Nat} (hk : okG 1 (mK M r) = true) : WP d 163 36 [l0, l1, l2, l3] (vr r :: st) M Q = WP d 163 39 [l0, l1, l2, l3] (vr (mR M r 0) :: st) M Q := w_getr mC_163 d163_36 fE_1_9 rfl hk
theorem d163_39 : decode cJ0_getBytes_840e7 39 = .ok (.arraylength, 1) := by decide +kernel
theorem k163_39 {d : Nat} {l0 l1 l2 l3 : Option PV} {st : List PV} {M : Mem} {Q : Option PV → Mem → Prop} {r : Nat} (hk : 13 ≤ mK M r ∧ mK M r ≤ 19) : WP d 163 39 [l0, l1, l2, l3] (vr r :: st) M Q = WP d 163 40 [l0, l1, l2, l3] (vi (Int32.ofNat (mN M r)) :: st) M Q := w_alen mC_163 d163_39 hk
theorem d163_43 : decode cJ0_getBytes_840e7 43 = .ok (.return_, 1) := by decide +kernel
theorem k163_43 {d : Nat} {l0 l1 l2 l3 : Option PV} {M : Mem} {Q : Option PV → Mem → Prop} : WP d 163 43 [l0, l1, l2, l3] ([]) M Q = Q none M := w_vret mC_163 d163_43 rfl
theorem d164_0 : decode cJ0_init_db425 0 = .ok (.aload_n 0, 1) := by decide +kernel
theorem k164_0 {d x : Nat} {l1 l2 l3 l4 : Option PV} {st : List PV} {M : Mem} {Q : Option PV → Mem → Prop} : WP d 164 0 [some (vr x), l1, l2, l3, l4] (st) M Q = WP d 164 1 [some (vr x), l1, l2, l3, l4] (vr x :: st) M Q := w1 mC_164 d164_0 rfl rfl
theorem d164_1 : decode cJ0_init_db425 1 = .ok (.invokespecial 1, 3) := by decide +kernel
theorem k164_1 {d : Nat} {l0 l1 l2 l3 l4 : Option PV} {st : List PV} {M : Mem} {Q : Option PV → Mem → Prop} {r : Nat} (hl : szL st ≤ 8) (hk : mK M r < 13) : WP d 164 1 [l0, l1, l2, l3, l4] (vr r :: st) M Q = WP d 164 4 [l0, l1, l2, l3, l4] (st) M Q := w_oi mC_164 d164_1 rfl rfl rfl rfl hl hk
theorem d164_4 : decode cJ0_init_db425 4 = .ok (.aload_n 1, 1) := by decide +kernel
theorem k164_4 {d x : Nat} {l0 l2 l3 l4 : Option PV} {st : List PV} {M : Mem} {Q : Option PV → Mem → Prop} : WP d 164 4 [l0, some (vr x), l2, l3, l4] (st) M Q = WP d 164 5 [l0, some (vr x), l2, l3, l4] (vr x :: st) M Q := w1 mC_164 d164_4 rfl rfl
theorem d164_5 : decode cJ0_init_db425 5 = .ok (.invokevirtual 552, 3) := by decide +kernel
theorem k164_5 {d : Nat} {l0 l1 l2 l3 l4 : Option PV} {st : List PV} {M : Mem} {Q : Option PV → Mem → Prop} {r : Nat} (hl : szL st ≤ 8) (hk : mK M r = 0) : WP (d + 1) 164 5 [l0, l1, l2, l3, l4] (vr r :: st) M Q = WP d 154 0 [some (vr r)] [] M (fun v M' => WP (d + 1) 164 8 [l0, l1, l2, l3, l4] (psh v st) M' Q) := w_callV mC_164 d164_5 (ci := 0) rfl rfl rfl (Nat.le_of_ble_eq_true rfl) (by decide) rfl hl (Or.inl hk)
theorem d164_8 : decode cJ0_init_db425 8 = .ok (.astore_n 3, 1) := by decide +kernel
theorem k164_8 {d : Nat} {l0 l1 l2 l3 l4 : Option PV} {st : List PV} {M : Mem} {Q : Option PV → Mem → Prop} {x : Nat} : WP d 164 8 [l0, l1, l2, l3, l4] (vr x :: st) M Q = WP d 164 9 [l0, l1, l2, some (vr x), l4] (st) M Q := w1 mC_164 d164_8 rfl rfl
theorem d164_9 : decode cJ0_init_db425 9 = .ok (.aload_n 1, 1) := by decide +kernel
theorem k164_9 {d x : Nat} {l0 l2 l3 l4 : Option PV} {st : List PV} {M : Mem} {Q : Option PV → Mem → Prop} : WP d 164 9 [l0, some (vr x), l2, l3, l4] (st) M Q = WP d 164 10 [l0, some (vr x), l2, l3, l4] (vr x :: st) M Q := w1 mC_164 d164_9 rfl rfl
theorem d164_10 : decode cJ0_init_db425 10 = .ok (.invokevirtual 549, 3) := by decide +kernel
theorem k164_10 {d : Nat} {l0 l1 l2 l3 l4 : Option PV} {st : List PV} {M : Mem} {Q : Option PV → Mem → Prop} {r : Nat} (hl : szL st ≤ 8) (hk : mK M r = 0) : WP (d + 1) 164 10 [l0, l1, l2, l3, l4] (vr r :: st) M Q = WP d 173 0 [some (vr r)] [] M (fun v M' => WP (d + 1) 164 13 [l0, l1, l2, l3, l4] (psh v st) M' Q) := w_callV mC_164 d164_10 (ci := 0) rfl rfl rfl (Nat.le_of_ble_eq_true rfl) (by decide) rfl hl (Or.inl hk)
theorem d164_13 : decode cJ0_init_db425 13 = .ok (.istore 4, 2) := by decide +kernel
theorem k164_13 {d : Nat} {l0 l1 l2 l3 l4 : Option PV} {st : List PV} {M : Mem} {Q : Option PV → Mem → Prop} {x : Int32} : WP d 164 13 [l0, l1, l2, l3, l4] (vi x :: st) M Q = WP d 164 15 [l0, l1, l2, l3, some (vi x)] (st) M Q := w1 mC_164 d164_13 rfl rfl
theorem d164_15 : decode cJ0_init_db425 15 = .ok (.aload_n 1, 1) := by decide +kernel
theorem k164_15 {d x : Nat} {l0 l2 l3 l4 : Option PV} {st : List PV} {M : Mem} {Q : Option PV → Mem → Prop} : WP d 164 15 [l0, some (vr x), l2, l3, l4] (st) M Q = WP d 164 16 [l0, some (vr x), l2, l3, l4] (vr x :: st) M Q := w1 mC_164 d164_15 rfl rfl
theorem d164_16 : decode cJ0_init_db425 16 = .ok (.invokevirtual 1047, 3) := by decide +kernel
theorem k164_16 {d : Nat} {l0 l1 l2 l3 l4 : Option PV} {st : List PV} {M : Mem} {Q : Option PV → Mem → Prop} {r : Nat} (hl : szL st ≤ 8) (hk : mK M r = 0) : WP (d + 1) 164 16 [l0, l1, l2, l3, l4] (vr r :: st) M Q = WP d 155 0 [some (vr r)] [] M (fun v M' => WP (d + 1) 164 19 [l0, l1, l2, l3, l4] (psh v st) M' Q) := w_callV mC_164 d164_16 (ci := 0) rfl rfl rfl (Nat.le_of_ble_eq_true rfl) (by decide) rfl hl (Or.inl hk)
theorem d164_19 : decode cJ0_init_db425 19 = .ok (.ifCond .eq 22, 3) := by decide +kernel
theorem k164_19 {d : Nat} {l0 l1 l2 l3 l4 : Option PV} {st : List PV} {M : Mem} {Q : Option PV → Mem → Prop} {x : Int32} : WP d 164 19 [l0, l1, l2, l3, l4] (vi x :: st) M Q = (if x = 0 then WP d 164 41 [l0, l1, l2, l3, l4] (st) M Q else WP d 164 22 [l0, l1, l2, l3, l4] (st) M Q) := w_if_eq mC_164 d164_19 (by decide)
theorem d164_22 : decode cJ0_init_db425 22 = .ok (.aload_n 0, 1) := by decide +kernel
theorem k164_22 {d x : Nat} {l1 l2 l3 l4 : Option PV} {st : List PV} {M : Mem} {Q : Option PV → Mem → Prop} : WP d 164 22 [some (vr x), l1, l2, l3, l4] (st) M Q = WP d 164 23 [some (vr x), l1, l2, l3, l4] (vr x :: st) M Q := w1 mC_164 d164_22 rfl rfl
theorem d164_23 : decode cJ0_init_db425 23 = .ok (.iconst 0, 1) := by decide +kernel
theorem k164_23 {d : Nat} {l0 l1 l2 l3 l4 : Option PV} {st : List PV} {M : Mem} {Q : Option PV → Mem → Prop} : WP d 164 23 [l0, l1, l2, l3, l4] (st) M Q = WP d 164 24 [l0, l1, l2, l3, l4] (vi 0 :: st) M Q := w_iconst mC_164 d164_23 (by decide)
theorem d164_24 : decode cJ0_init_db425 24 = .ok (.putfield 15, 3) := by decide +kernel
theorem k164_24 {d : Nat} {l0 l1 l2 l3 l4 : Option PV} {st : List PV} {M : Mem} {Q : Option PV → Mem → Prop} {r : Nat} {x : Int32} (hk : mK M r = 1) (hx : byV x = x) : WP d 164 24 [l0, l1, l2, l3, l4] (vi x :: vr r :: st) M Q = WP d 164 27 [l0, l1, l2, l3, l4] (st) (sI M r 1 x) Q := w_putB mC_164 d164_24 fE_1_15 (by decide +kernel) (by rw [hk]; rfl) hx
theorem d164_27 : decode cJ0_init_db425 27 = .ok (.aload_n 0, 1) := by decide +kernel
theorem k164_27 {d x : Nat} {l1 l2 l3 l4 : Option PV} {st : List PV} {M : Mem} {Q : Option PV → Mem → Prop} : WP d 164 27 [some (vr x), l1, l2, l3, l4] (st) M Q = WP d 164 28 [some (vr x), l1, l2, l3, l4] (vr x :: st) M Q := w1 mC_164 d164_27 rfl rfl
theorem d164_28 : decode cJ0_init_db425 28 = .ok (.aload_n 3, 1) := by decide +kernel
theorem k164_28 {d x : Nat} {l0 l1 l2 l4 : Option PV} {st : List PV} {M : Mem} {Q : Option PV → Mem → Prop} : WP d 164 28 [l0, l1, l2, some (vr x), l4] (st) M Q = WP d 164 29 [l0, l1, l2, some (vr x), l4] (vr x :: st) M Q := w1 mC_164 d164_28 rfl rfl
theorem d164_29 : decode cJ0_init_db425 29 = .ok (.iconst 0, 1) := by decide +kernel
theorem k164_29 {d : Nat} {l0 l1 l2 l3 l4 : Option PV} {st : List PV} {M : Mem} {Q : Option PV → Mem → Prop} : WP d 164 29 [l0, l1, l2, l3, l4] (st) M Q = WP d 164 30 [l0, l1, l2, l3, l4] (vi 0 :: st) M Q := w_iconst mC_164 d164_29 (by decide)
theorem d164_30 : decode cJ0_init_db425 30 = .ok (.iload 4, 2) := by decide +kernel
theorem k164_30 {d : Nat} {x : Int32} {l0 l1 l2 l3 : Option PV} {st : List PV} {M : Mem} {Q : Option PV → Mem → Prop} : WP d 164 30 [l0, l1, l2, l3, some (vi x)] (st) M Q = WP d 164 32 [l0, l1, l2, l3, some (vi x)] (vi x :: st) M Q := w1 mC_164 d164_30 rfl rfl
theorem d164_32 : decode cJ0_init_db425 32 = .ok (.invokestatic 54, 3) := by decide +kernel
theorem k164_32 {d : Nat} {l0 l1 l2 l3 l4 : Option PV} {st : List PV} {M : Mem} {Q : Option PV → Mem → Prop} {a1 a2 : Int32} {a0 : Nat} (hl : szL st ≤ 8) : WP (d + 1) 164 32 [l0, l1, l2, l3, l4] (vi a2 :: vi a1 :: vr a0 :: st) M Q = WP d 178 0 [some (vr a0), some (vi a1), some (vi a2)] [] M (fun v M' => WP (d + 1) 164 35 [l0, l1, l2, l3, l4] (psh v st) M' Q) := w_callS mC_164 d164_32 rfl rfl (Nat.le_of_ble_eq_true rfl) (by decide) rfl hl
theorem d164_35 : decode cJ0_init_db425 35 = .ok (.putfield 9, 3) := by decide +kernel
theorem k164_35 {d : Nat} {l0 l1 l2 l3 l4 : Option PV} {st : List PV} {M : Mem} {Q : Option PV → Mem → Prop} {r q : Nat} (hk : mK M r = 1) : WP d 164 35 [l0, l1, l2, l3, l4] (vr q :: vr r :: st) M Q = WP d 164 38 [l0, l1, l2, l3, l4] (st) (sR M r 0 q) Q := w_putr mC_164 d164_35 fE_1_9 (by decide +kernel) (by rw [hk]; rfl)
theorem d164_38 : decode cJ0_init_db425 38 = .ok (.goto 59, 3) := by decide +kernel
theorem k164_38 {d : Nat} {l0 l1 l2 l3 l4 : Option PV} {st : List PV} {M : Mem} {Q : Option PV → Mem → Prop} : WP d 164 38 [l0, l1, l2, l3, l4] (st) M Q = WP d 164 97 [l0, l1, l2, l3, l4] (st) M Q := w_goto mC_164 d164_38 (by decide)
theorem d164_41 : decode cJ0_init_db425 41 = .ok (.getstatic 38, 3) := by decide +kernel
theorem k164_41 {d : Nat} {l0 l1 l2 l3 l4 : Option PV} {st : List PV} {M : Mem} {Q : Option PV → Mem → Prop} : WP d 164 41 [l0, l1, l2, l3, l4] (st) M Q = WP d 164 44 [l0, l1, l2, l3, l4] (vi 1 :: st) M Q := w_gets0 mC_164 d164_41 rfl
theorem d164_44 : decode cJ0_init_db425 44 = .ok (.ifCond .eq 35, 3) := by decide +kernel
theorem k164_44 {d : Nat} {l0 l1 l2 l3 l4 : Option PV} {st : List PV} {M : Mem} {Q : Option PV → Mem → Prop} {x : Int32} : WP d 164 44 [l0, l1, l2, l3, l4] (vi x :: st) M Q = (if x = 0 then WP d 164 79 [l0, l1, l2, l3, l4] (st) M Q else WP d 164 47 [l0, l1, l2, l3, l4] (st) M Q) := w_if_eq mC_164 d164_44 (by decide)
theorem d164_47 : decode cJ0_init_db425 47 = .ok (.aload_n 1, 1) := by decide +kernel
theorem k164_47 {d x : Nat} {l0 l2 l3 l4 : Option PV} {st : List PV} {M : Mem} {Q : Option PV → Mem → Prop} : WP d 164 47 [l0, some (vr x), l2, l3, l4] (st) M Q = WP d 164 48 [l0, some (vr x), l2, l3, l4] (vr x :: st) M Q := w1 mC_164 d164_47 rfl rfl
theorem d164_48 : decode cJ0_init_db425 48 = .ok (.getfield 1048, 3) := by decide +kernel
theorem k164_48 {d : Nat} {l0 l1 l2 l3 l4 : Option PV} {st : List PV} {M : Mem} {Q : Option PV → Mem → Prop} {r : Nat} (hk : mK M r = 0) : WP d 164 48 [l0, l1, l2, l3, l4] (vr r :: st) M Q = WP d 164 51 [l0, l1, l2, l3, l4] (vi (mI M r 2) :: st) M Q := w_get mC_164 d164_48 fE_1_1048 rfl (by rw [hk]; rfl)
theorem d164_51 : decode cJ0_init_db425 51 = .ok (.ifCond .eq 28, 3) := by decide +kernel
theorem k164_51 {d : Nat} {l0 l1 l2 l3 l4 : Option PV} {st : List PV} {M : Mem} {Q : Option PV → Mem → Prop} {x : Int32} : WP d 164 51 [l0, l1, l2, l3, l4] (vi x :: st) M Q = (if x = 0 then WP d 164 79 [l0, l1, l2, l3, l4] (st) M Q else WP d 164 54 [l0, l1, l2, l3, l4] (st) M Q) := w_if_eq mC_164 d164_51 (by decide)
theorem d164_54 : decode cJ0_init_db425 54 = .ok (.aload_n 0, 1) := by decide +kernel
theorem k164_54 {d x : Nat} {l1 l2 l3 l4 : Option PV} {st : List PV} {M : Mem} {Q : Option PV → Mem → Prop} : WP d 164 54 [some (vr x), l1, l2, l3, l4] (st) M Q = WP d 164 55 [some (vr x), l1, l2, l3, l4] (vr x :: st) M Q := w1 mC_164 d164_54 rfl rfl
theorem d164_55 : decode cJ0_init_db425 55 = .ok (.aload_n 3, 1) := by decide +kernel
theorem k164_55 {d x : Nat} {l0 l1 l2 l4 : Option PV} {st : List PV} {M : Mem} {Q : Option PV → Mem → Prop} : WP d 164 55 [l0, l1, l2, some (vr x), l4] (st) M Q = WP d 164 56 [l0, l1, l2, some (vr x), l4] (vr x :: st) M Q := w1 mC_164 d164_55 rfl rfl
theorem d164_56 : decode cJ0_init_db425 56 = .ok (.iconst 0, 1) := by decide +kernel
theorem k164_56 {d : Nat} {l0 l1 l2 l3 l4 : Option PV} {st : List PV} {M : Mem} {Q : Option PV → Mem → Prop} : WP d 164 56 [l0, l1, l2, l3, l4] (st) M Q = WP d 164 57 [l0, l1, l2, l3, l4] (vi 0 :: st) M Q := w_iconst mC_164 d164_56 (by decide)
theorem d164_57 : decode cJ0_init_db425 57 = .ok (.iload 4, 2) := by decide +kernel
theorem k164_57 {d : Nat} {x : Int32} {l0 l1 l2 l3 : Option PV} {st : List PV} {M : Mem} {Q : Option PV → Mem → Prop} : WP d 164 57 [l0, l1, l2, l3, some (vi x)] (st) M Q = WP d 164 59 [l0, l1, l2, l3, some (vi x)] (vi x :: st) M Q := w1 mC_164 d164_57 rfl rfl
theorem d164_62 : decode cJ0_init_db425 62 = .ok (.putfield 9, 3) := by decide +kernel
theorem k164_62 {d : Nat} {l0 l1 l2 l3 l4 : Option PV} {st : List PV} {M : Mem} {Q : Option PV → Mem → Prop} {r q : Nat} (hk : mK M r = 1) : WP d 164 62 [l0, l1, l2, l3, l4] (vr q :: vr r :: st) M Q = WP d 164 65 [l0, l1, l2, l3, l4] (st) (sR M r 0 q) Q := w_putr mC_164 d164_62 fE_1_9 (by decide +kernel) (by rw [hk]; rfl)
theorem d164_65 : decode cJ0_init_db425 65 = .ok (.aload_n 0, 1) := by decide +kernel
theorem k164_65 {d x : Nat} {l1 l2 l3 l4 : Option PV} {st : List PV} {M : Mem} {Q : Option PV → Mem → Prop} : WP d 164 65 [some (vr x), l1, l2, l3, l4] (st) M Q = WP d 164 66 [some (vr x), l1, l2, l3, l4] (vr x :: st) M Q := w1 mC_164 d164_65 rfl rfl
theorem d164_66 : decode cJ0_init_db425 66 = .ok (.aload_n 0, 1) := by decide +kernel
theorem k164_66 {d x : Nat} {l1 l2 l3 l4 : Option PV} {st : List PV} {M : Mem} {Q : Option PV → Mem → Prop} : WP d 164 66 [some (vr x), l1, l2, l3, l4] (st) M Q = WP d 164 67 [some (vr x), l1, l2, l3, l4] (vr x :: st) M Q := w1 mC_164 d164_66 rfl rfl
theorem d164_67 : decode cJ0_init_db425 67 = .ok (.getfield 9, 3) := by decide +kernel
theorem k164_67 {d : Nat} {l0 l1 l2 l3 l4 : Option PV} {st : List PV} {M : Mem} {Q : Option PV → Mem → Prop} {r : Nat} (hk : okG 1 (mK M r) = true) : WP d 164 67 [l0, l1, l2, l3, l4] (vr r :: st) M Q = WP d 164 70 [l0, l1, l2, l3, l4] (vr (mR M r 0) :: st) M Q := w_getr mC_164 d164_67 fE_1_9 rfl hk
theorem d164_70 : decode cJ0_init_db425 70 = .ok (.iload 4, 2) := by decide +kernel
theorem k164_70 {d : Nat} {x : Int32} {l0 l1 l2 l3 : Option PV} {st : List PV} {M : Mem} {Q : Option PV → Mem → Prop} : WP d 164 70 [l0, l1, l2, l3, some (vi x)] (st) M Q = WP d 164 72 [l0, l1, l2, l3, some (vi x)] (vi x :: st) M Q := w1 mC_164 d164_70 rfl rfl
theorem d164_75 : decode cJ0_init_db425 75 = .ok (.putfield 15, 3) := by decide +kernel
theorem k164_75 {d : Nat} {l0 l1 l2 l3 l4 : Option PV} {st : List PV} {M : Mem} {Q : Option PV → Mem → Prop} {r : Nat} {x : Int32} (hk : mK M r = 1) (hx : byV x = x) : WP d 164 75 [l0, l1, l2, l3, l4] (vi x :: vr r :: st) M Q = WP d 164 78 [l0, l1, l2, l3, l4] (st) (sI M r 1 x) Q := w_putB mC_164 d164_75 fE_1_15 (by decide +kernel) (by rw [hk]; rfl) hx
theorem d164_78 : decode cJ0_init_db425 78 = .ok (.return_, 1) := by decide +kernel
theorem k164_78 {d : Nat} {l0 l1 l2 l3 l4 : Option PV} {M : Mem} {Q : Option PV → Mem → Prop} : WP d 164 78 [l0, l1, l2, l3, l4] ([]) M Q = Q none M := w_vret mC_164 d164_78 rfl
theorem d164_79 : decode cJ0_init_db425 79 = .ok (.aload_n 0, 1) := by decide +kernel
theorem k164_79 {d x : Nat} {l1 l2 l3 l4 : Option PV} {st : List PV} {M : Mem} {Q : Option PV → Mem → Prop} : WP d 164 79 [some (vr x), l1, l2, l3, l4] (st) M Q = WP d 164 80 [some (vr x), l1, l2, l3, l4] (vr x :: st) M Q := w1 mC_164 d164_79 rfl rfl
theorem d164_80 : decode cJ0_init_db425 80 = .ok (.iconst 1, 1) := by decide +kernel
theorem k164_80 {d : Nat} {l0 l1 l2 l3 l4 : Option PV} {st : List PV} {M : Mem} {Q : Option PV → Mem → Prop} : WP d 164 80 [l0, l1, l2, l3, l4] (st) M Q = WP d 164 81 [l0, l1, l2, l3, l4] (vi 1 :: st) M Q := w_iconst mC_164 d164_80 (by decide)
theorem d164_81 : decode cJ0_init_db425 81 = .ok (.putfield 15, 3) := by decide +kernel
theorem k164_81 {d : Nat} {l0 l1 l2 l3 l4 : Option PV} {st : List PV} {M : Mem} {Q : Option PV → Mem → Prop} {r : Nat} {x : Int32} (hk : mK M r = 1) (hx : byV x = x) : WP d 164 81 [l0, l1, l2, l3, l4] (vi x :: vr r :: st) M Q = WP d 164 84 [l0, l1, l2, l3, l4] (st) (sI M r 1 x) Q := w_putB mC_164 d164_81 fE_1_15 (by decide +kernel) (by rw [hk]; rfl) hx
theorem d164_84 : decode cJ0_init_db425 84 = .ok (.aload_n 0, 1) := by decide +kernel
theorem k164_84 {d x : Nat} {l1 l2 l3 l4 : Option PV} {st : List PV} {M : Mem} {Q : Option PV → Mem → Prop} : WP d 164 84 [some (vr x), l1, l2, l3, l4] (st) M Q = WP d 164 85 [some (vr x), l1, l2, l3, l4] (vr x :: st) M Q := w1 mC_164 d164_84 rfl rfl
theorem d164_85 : decode cJ0_init_db425 85 = .ok (.aload_n 3, 1) := by decide +kernel
theorem k164_85 {d x : Nat} {l0 l1 l2 l4 : Option PV} {st : List PV} {M : Mem} {Q : Option PV → Mem → Prop} : WP d 164 85 [l0, l1, l2, some (vr x), l4] (st) M Q = WP d 164 86 [l0, l1, l2, some (vr x), l4] (vr x :: st) M Q := w1 mC_164 d164_85 rfl rfl
theorem d164_86 : decode cJ0_init_db425 86 = .ok (.iconst 0, 1) := by decide +kernel
theorem k164_86 {d : Nat} {l0 l1 l2 l3 l4 : Option PV} {st : List PV} {M : Mem} {Q : Option PV → Mem → Prop} : WP d 164 86 [l0, l1, l2, l3, l4] (st) M Q = WP d 164 87 [l0, l1, l2, l3, l4] (vi 0 :: st) M Q := w_iconst mC_164 d164_86 (by decide)
theorem d164_87 : decode cJ0_init_db425 87 = .ok (.iload 4, 2) := by decide +kernel
theorem k164_87 {d : Nat} {x : Int32} {l0 l1 l2 l3 : Option PV} {st : List PV} {M : Mem} {Q : Option PV → Mem → Prop} : WP d 164 87 [l0, l1, l2, l3, some (vi x)] (st) M Q = WP d 164 89 [l0, l1, l2, l3, some (vi x)] (vi x :: st) M Q := w1 mC_164 d164_87 rfl rfl
theorem d164_89 : decode cJ0_init_db425 89 = .ok (.iconst 1, 1) := by decide +kernel
theorem k164_89 {d : Nat} {l0 l1 l2 l3 l4 : Option PV} {st : List PV} {M : Mem} {Q : Option PV → Mem → Prop} : WP d 164 89 [l0, l1, l2, l3, l4] (st) M Q = WP d 164 90 [l0, l1, l2, l3, l4] (vi 1 :: st) M Q := w_iconst mC_164 d164_89 (by decide)
theorem d164_90 : decode cJ0_init_db425 90 = .ok (.ishl, 1) := by decide +kernel
theorem k164_90 {d : Nat} {l0 l1 l2 l3 l4 : Option PV} {st : List PV} {M : Mem} {Q : Option PV → Mem → Prop} {x y : Int32} : WP d 164 90 [l0, l1, l2, l3, l4] (vi y :: vi x :: st) M Q = WP d 164 91 [l0, l1, l2, l3, l4] (vi (x <<< (y &&& 31)) :: st) M Q := w1 mC_164 d164_90 rfl rfl
theorem d164_91 : decode cJ0_init_db425 91 = .ok (.invokestatic 54, 3) := by decide +kernel
theorem k164_91 {d : Nat} {l0 l1 l2 l3 l4 : Option PV} {st : List PV} {M : Mem} {Q : Option PV → Mem → Prop} {a1 a2 : Int32} {a0 : Nat} (hl : szL st ≤ 8) : WP (d + 1) 164 91 [l0, l1, l2, l3, l4] (vi a2 :: vi a1 :: vr a0 :: st) M Q = WP d 178 0 [some (vr a0), some (vi a1), some (vi a2)] [] M (fun v M' => WP (d + 1) 164 94 [l0, l1, l2, l3, l4] (psh v st) M' Q) := w_callS mC_164 d164_91 rfl rfl (Nat.le_of_ble_eq_true rfl) (by decide) rfl hl
theorem d164_94 : decode cJ0_init_db425 94 = .ok (.putfield 9, 3) := by decide +kernel
theorem k164_94 {d : Nat} {l0 l1 l2 l3 l4 : Option PV} {st : List PV} {M : Mem} {Q : Option PV → Mem → Prop} {r q : Nat} (hk : mK M r = 1) : WP d 164 94 [l0, l1, l2, l3, l4] (vr q :: vr r :: st) M Q = WP d 164 97 [l0, l1, l2, l3, l4] (st) (sR M r 0 q) Q := w_putr mC_164 d164_94 fE_1_9 (by decide +kernel) (by rw [hk]; rfl)
theorem d164_97 : decode cJ0_init_db425 97 = .ok (.return_, 1) := by decide +kernel
theorem k164_97 {d : Nat} {l0 l1 l2 l3 l4 : Option PV} {M : Mem} {Q : Option PV → Mem → Prop} : WP d 164 97 [l0, l1, l2, l3, l4] ([]) M Q = Q none M := w_vret mC_164 d164_97 rfl
theorem d165_0 : decode cJ0_coder_7d493 0 = .ok (.getstatic 38, 3) := by decide +kernel
theorem k165_0 {d : Nat} {l0 : Option PV} {st : List PV} {M : Mem} {Q : Option PV → Mem → Prop} : WP d 165 0 [l0] (st) M Q = WP d 165 3 [l0] (vi 1 :: st) M Q := w_gets0 mC_165 d165_0 rfl
theorem d165_3 : decode cJ0_coder_7d493 3 = .ok (.ifCond .eq 10, 3) := by decide +kernel
theorem k165_3 {d : Nat} {l0 : Option PV} {st : List PV} {M : Mem} {Q : Option PV → Mem → Prop} {x : Int32} : WP d 165 3 [l0] (vi x :: st) M Q = (if x = 0 then WP d 165 13 [l0] (st) M Q else WP d 165 6 [l0] (st) M Q) := w_if_eq mC_165 d165_3 (by decide)
theorem d165_6 : decode cJ0_coder_7d493 6 = .ok (.aload_n 0, 1) := by decide +kernel
theorem k165_6 {d x : Nat} {st : List PV} {M : Mem} {Q : Option PV → Mem → Prop} : WP d 165 6 [some (vr x)] (st) M Q = WP d 165 7 [some (vr x)] (vr x :: st) M Q := w1 mC_165 d165_6 rfl rfl
theorem d165_7 : decode cJ0_coder_7d493 7 = .ok (.getfield 15, 3) := by decide +kernel
theorem k165_7 {d : Nat} {l0 : Option PV} {st : List PV} {M : Mem} {Q : Option PV → Mem → Prop} {r : Nat} (hk : okG 1 (mK M r) = true) : WP d 165 7 [l0] (vr r :: st) M Q = WP d 165 10 [l0] (vi (mI M r 1) :: st) M Q := w_get mC_165 d165_7 fE_1_15 rfl hk
theorem d165_10 : decode cJ0_coder_7d493 10 = .ok (.goto 4, 3) := by decide +kernel
theorem k165_10 {d : Nat} {l0 : Option PV} {st : List PV} {M : Mem} {Q : Option PV → Mem → Prop} : WP d 165 10 [l0] (st) M Q = WP d 165 14 [l0] (st) M Q := w_goto mC_165 d165_10 (by decide)
theorem d165_13 : decode cJ0_coder_7d493 13 = .ok (.iconst 1, 1) := by decide +kernel
theorem k165_13 {d : Nat} {l0 : Option PV} {st : List PV} {M : Mem} {Q : Option PV → Mem → Prop} : WP d 165 13 [l0] (st) M Q = WP d 165 14 [l0] (vi 1 :: st) M Q := w_iconst mC_165 d165_13 (by decide)
theorem d165_14 : decode cJ0_coder_7d493 14 = .ok (.ireturn, 1) := by decide +kernel
theorem k165_14 {d : Nat} {l0 : Option PV} {M : Mem} {Q : Option PV → Mem → Prop} {x : Int32} (hx : byV x = x) : WP d 165 14 [l0] ([vi x]) M Q = Q (some (vi x)) M := w_bret mC_165 d165_14 rfl hx
theorem d166_0 : decode cJ0_isLatin1_aae02 0 = .ok (.getstatic 38, 3) := by decide +kernel
theorem k166_0 {d : Nat} {l0 : Option PV} {st : List PV} {M : Mem} {Q : Option PV → Mem → Prop} : WP d 166 0 [l0] (st) M Q = WP d 166 3 [l0] (vi 1 :: st) M Q := w_gets0 mC_166 d166_0 rfl
theorem d166_3 : decode cJ0_isLatin1_aae02 3 = .ok (.ifCond .eq 14, 3) := by decide +kernel
theorem k166_3 {d : Nat} {l0 : Option PV} {st : List PV} {M : Mem} {Q : Option PV → Mem → Prop} {x : Int32} : WP d 166 3 [l0] (vi x :: st) M Q = (if x = 0 then WP d 166 17 [l0] (st) M Q else WP d 166 6 [l0] (st) M Q) := w_if_eq mC_166 d166_3 (by decide)
theorem d166_6 : decode cJ0_isLatin1_aae02 6 = .ok (.aload_n 0, 1) := by decide +kernel
theorem k166_6 {d x : Nat} {st : List PV} {M : Mem} {Q : Option PV → Mem → Prop} : WP d 166 6 [some (vr x)] (st) M Q = WP d 166 7 [some (vr x)] (vr x :: st) M Q := w1 mC_166 d166_6 rfl rfl
theorem d166_7 : decode cJ0_isLatin1_aae02 7 = .ok (.getfield 15, 3) := by decide +kernel
theorem k166_7 {d : Nat} {l0 : Option PV} {st : List PV} {M : Mem} {Q : Option PV → Mem → Prop} {r : Nat} (hk : okG 1 (mK M r) = true) : WP d 166 7 [l0] (vr r :: st) M Q = WP d 166 10 [l0] (vi (mI M r 1) :: st) M Q := w_get mC_166 d166_7 fE_1_15 rfl hk
theorem d166_10 : decode cJ0_isLatin1_aae02 10 = .ok (.ifCond .ne 7, 3) := by decide +kernel
theorem k166_10 {d : Nat} {l0 : Option PV} {st : List PV} {M : Mem} {Q : Option PV → Mem → Prop} {x : Int32} : WP d 166 10 [l0] (vi x :: st) M Q = (if x = 0 then WP d 166 13 [l0] (st) M Q else WP d 166 17 [l0] (st) M Q) := w_if_ne mC_166 d166_10 (by decide)
theorem d166_13 : decode cJ0_isLatin1_aae02 13 = .ok (.iconst 1, 1) := by decide +kernel
theorem k166_13 {d : Nat} {l0 : Option PV} {st : List PV} {M : Mem} {Q : Option PV → Mem → Prop} : WP d 166 13 [l0] (st) M Q = WP d 166 14 [l0] (vi 1 :: st) M Q := w_iconst mC_166 d166_13 (by decide)
theorem d166_14 : decode cJ0_isLatin1_aae02 14 = .ok (.goto 4, 3) := by decide +kernel
theorem k166_14 {d : Nat} {l0 : Option PV} {st : List PV} {M : Mem} {Q : Option PV → Mem → Prop} : WP d 166 14 [l0] (st) M Q = WP d 166 18 [l0] (st) M Q := w_goto mC_166 d166_14 (by decide)
theorem d166_17 : decode cJ0_isLatin1_aae02 17 = .ok (.iconst 0, 1) := by decide +kernel
theorem k166_17 {d : Nat} {l0 : Option PV} {st : List PV} {M : Mem} {Q : Option PV → Mem → Prop} : WP d 166 17 [l0] (st) M Q = WP d 166 18 [l0] (vi 0 :: st) M Q := w_iconst mC_166 d166_17 (by decide)
theorem d166_18 : decode cJ0_isLatin1_aae02 18 = .ok (.ireturn, 1) := by decide +kernel
theorem k166_18 {d : Nat} {l0 : Option PV} {M : Mem} {Q : Option PV → Mem → Prop} {x : Int32} (hx : x = 0 ∨ x = 1) : WP d 166 18 [l0] ([vi x]) M Q = Q (some (vi x)) M := w_zret mC_166 d166_18 rfl hx
theorem d167_0 : decode cJ0_checkIndex_df160 0 = .ok (.iload_n 0, 1) := by decide +kernel
theorem k167_0 {d : Nat} {x : Int32} {l1 : Option PV} {st : List PV} {M : Mem} {Q : Option PV → Mem → Prop} : WP d 167 0 [some (vi x), l1] (st) M Q = WP d 167 1 [some (vi x), l1] (vi x :: st) M Q := w1 mC_167 d167_0 rfl rfl
theorem d167_1 : decode cJ0_checkIndex_df160 1 = .ok (.iload_n 1, 1) := by decide +kernel
theorem k167_1 {d : Nat} {x : Int32} {l0 : Option PV} {st : List PV} {M : Mem} {Q : Option PV → Mem → Prop} : WP d 167 1 [l0, some (vi x)] (st) M Q = WP d 167 2 [l0, some (vi x)] (vi x :: st) M Q := w1 mC_167 d167_1 rfl rfl
theorem d167_2 : decode cJ0_checkIndex_df160 2 = .ok (.getstatic 1053, 3) := by decide +kernel
theorem k167_2 {d : Nat} {l0 l1 : Option PV} {st : List PV} {M : Mem} {Q : Option PV → Mem → Prop} : WP d 167 2 [l0, l1] (st) M Q = WP d 167 5 [l0, l1] (vr (if mI M 1000042 0 = 0 then 0 else 1000042) :: st) M Q := w_gets3 mC_167 d167_2 rfl
theorem d167_5 : decode cJ0_checkIndex_df160 5 = .ok (.invokestatic 1059, 3) := by decide +kernel
theorem k167_5 {d : Nat} {l0 l1 : Option PV} {st : List PV} {M : Mem} {Q : Option PV → Mem → Prop} {a0 a1 : Int32} {a2 : Nat} (hl : szL st ≤ 8) : WP (d + 1) 167 5 [l0, l1] (vr a2 :: vi a1 :: vi a0 :: st) M Q = WP d 181 0 [some (vi a0), some (vi a1), some (vr a2)] [] M (fun v M' => WP (d + 1) 167 8 [l0, l1] (psh v st) M' Q) := w_callS mC_167 d167_5 rfl rfl (Nat.le_of_ble_eq_true rfl) (by decide) rfl hl
theorem d167_8 : decode cJ0_checkIndex_df160 8 = .ok (.pop, 1) := by decide +kernel
theorem k167_8 {d : Nat} {l0 l1 : Option PV} {st : List PV} {M : Mem} {Q : Option PV → Mem → Prop} {x : Nat} : WP d 167 8 [l0, l1] (vr x :: st) M Q = WP d 167 9 [l0, l1] (st) M Q := w1 mC_167 d167_8 rfl rfl
theorem k167_8i {d : Nat} {l0 l1 : Option PV} {st : List PV} {M : Mem} {Q : Option PV → Mem → Prop} {x : Int32} : WP d 167 8 [l0, l1] (vi x :: st) M Q = WP d 167 9 [l0, l1] (st) M Q := w1 mC_167 d167_8 rfl rfl
theorem d167_9 : decode cJ0_checkIndex_df160 9 = .ok (.return_, 1) := by decide +kernel
theorem k167_9 {d : Nat} {l0 l1 : Option PV} {M : Mem} {Q : Option PV → Mem → Prop} : WP d 167 9 [l0, l1] ([]) M Q = Q none M := w_vret mC_167 d167_9 rfl
theorem d168_0 : decode cJ4_init_da8c8 0 = .ok (.aload_n 0, 1) := by decide +kernel
theorem k168_0 {d x : Nat} {st : List PV} {M : Mem} {Q : Option PV → Mem → Prop} : WP d 168 0 [some (vr x)] (st) M Q = WP d 168 1 [some (vr x)] (vr x :: st) M Q := w1 mC_168 d168_0 rfl rfl
theorem d168_1 : decode cJ4_init_da8c8 1 = .ok (.bipush 16, 2) := by decide +kernel
theorem k168_1 {d : Nat} {l0 : Option PV} {st : List PV} {M : Mem} {Q : Option PV → Mem → Prop} : WP d 168 1 [l0] (st) M Q = WP d 168 3 [l0] (vi 16 :: st) M Q := w_bipush mC_168 d168_1 (by decide)
theorem d168_3 : decode cJ4_init_da8c8 3 = .ok (.invokespecial 1, 3) := by decide +kernel
theorem k168_3 {d : Nat} {l0 : Option PV} {st : List PV} {M : Mem} {Q : Option PV → Mem → Prop} {a0 : Int32} {r : Nat} (hl : szL st ≤ 8) (hk : mK M r < 13) : WP (d + 1) 168 3 [l0] (vi a0 :: vr r :: st) M Q = WP d 147 0 [some (vr r), some (vi a0)] [] M (fun v M' => WP (d + 1) 168 6 [l0] (psh v st) M' Q) := w_callI mC_168 d168_3 rfl rfl (Nat.le_of_ble_eq_true rfl) (by decide) rfl hl hk
theorem d168_6 : decode cJ4_init_da8c8 6 = .ok (.return_, 1) := by decide +kernel
theorem k168_6 {d : Nat} {l0 : Option PV} {M : Mem} {Q : Option PV → Mem → Prop} : WP d 168 6 [l0] ([]) M Q = Q none M := w_vret mC_168 d168_6 rfl
theorem d169_0 : decode cJ4_append_15ec4 0 = .ok (.aload_n 0, 1) := by decide +kernel
theorem k169_0 {d x : Nat} {l1 : Option PV} {st : List PV} {M : Mem} {Q : Option PV → Mem → Prop} : WP d 169 0 [some (vr x), l1] (st) M Q = WP d 169 1 [some (vr x), l1] (vr x :: st) M Q := w1 mC_169 d169_0 rfl rfl
theorem d169_1 : decode cJ4_append_15ec4 1 = .ok (.aload_n 1, 1) := by decide +kernel
theorem k169_1 {d x : Nat} {l0 : Option PV} {st : List PV} {M : Mem} {Q : Option PV → Mem → Prop} : WP d 169 1 [l0, some (vr x)] (st) M Q = WP d 169 2 [l0, some (vr x)] (vr x :: st) M Q := w1 mC_169 d169_1 rfl rfl
theorem d169_2 : decode cJ4_append_15ec4 2 = .ok (.invokespecial 29, 3) := by decide +kernel
theorem k169_2 {d : Nat} {l0 l1 : Option PV} {st : List PV} {M : Mem} {Q : Option PV → Mem → Prop} {a0 : Nat} {r : Nat} (hl : szL st ≤ 8) (hk : mK M r = 0) : WP (d + 1) 169 2 [l0, l1] (vr a0 :: vr r :: st) M Q = WP d 151 0 [some (vr r), some (vr a0), none] [] M (fun v M' => WP (d + 1) 169 5 [l0, l1] (psh v st) M' Q) := w_callP mC_169 d169_2 rfl rfl rfl rfl (Nat.le_of_ble_eq_true rfl) (by decide) rfl hl hk
theorem d169_5 : decode cJ4_append_15ec4 5 = .ok (.pop, 1) := by decide +kernel
theorem k169_5 {d : Nat} {l0 l1 : Option PV} {st : List PV} {M : Mem} {Q : Option PV → Mem → Prop} {x : Nat} : WP d 169 5 [l0, l1] (vr x :: st) M Q = WP d 169 6 [l0, l1] (st) M Q := w1 mC_169 d169_5 rfl rfl
theorem k169_5i {d : Nat} {l0 l1 : Option PV} {st : List PV} {M : Mem} {Q : Option PV → Mem → Prop} {x : Int32} : WP d 169 5 [l0, l1] (vi x :: st) M Q = WP d 169 6 [l0, l1] (st) M Q := w1 mC_169 d169_5 rfl rfl
theorem d169_6 : decode cJ4_append_15ec4 6 = .ok (.aload_n 0, 1) := by decide +kernel
theorem k169_6 {d x : Nat} {l1 : Option PV} {st : List PV} {M : Mem} {Q : Option PV → Mem → Prop} : WP d 169 6 [some (vr x), l1] (st) M Q = WP d 169 7 [some (vr x), l1] (vr x :: st) M Q := w1 mC_169 d169_6 rfl rfl
theorem d169_7 : decode cJ4_append_15ec4 7 = .ok (.areturn, 1) := by decide +kernel
theorem k169_7 {d : Nat} {l0 l1 : Option PV} {M : Mem} {Q : Option PV → Mem → Prop} {r : Nat} (hr : 2 ≤ r) : WP d 169 7 [l0, l1] ([vr r]) M Q = Q (some (vr r)) M := w_aret mC_169 d169_7 rfl hr
theorem d170_0 : decode cJ4_append_cf468 0 = .ok (.aload_n 0, 1) := by decide +kernel
theorem k170_0 {d x : Nat} {l1 : Option PV} {st : List PV} {M : Mem} {Q : Option PV → Mem → Prop} : WP d 170 0 [some (vr x), l1] (st) M Q = WP d 170 1 [some (vr x), l1] (vr x :: st) M Q := w1 mC_170 d170_0 rfl rfl
theorem d170_1 : decode cJ4_append_cf468 1 = .ok (.iload_n 1, 1) := by decide +kernel
theorem k170_1 {d : Nat} {x : Int32} {l0 : Option PV} {st : List PV} {M : Mem} {Q : Option PV → Mem → Prop} : WP d 170 1 [l0, some (vi x)] (st) M Q = WP d 170 2 [l0, some (vi x)] (vi x :: st) M Q := w1 mC_170 d170_1 rfl rfl
theorem d170_2 : decode cJ4_append_cf468 2 = .ok (.invokespecial 50, 3) := by decide +kernel
theorem k170_2 {d : Nat} {l0 l1 : Option PV} {st : List PV} {M : Mem} {Q : Option PV → Mem → Prop} {a0 : Int32} {r : Nat} (hl : szL st ≤ 8) (hk : mK M r = 0) : WP (d + 1) 170 2 [l0, l1] (vi a0 :: vr r :: st) M Q = WP d 152 0 [some (vr r), some (vi a0)] [] M (fun v M' => WP (d + 1) 170 5 [l0, l1] (psh v st) M' Q) := w_callP mC_170 d170_2 rfl rfl rfl rfl (Nat.le_of_ble_eq_true rfl) (by decide) rfl hl hk
theorem d170_5 : decode cJ4_append_cf468 5 = .ok (.pop, 1) := by decide +kernel
theorem k170_5 {d : Nat} {l0 l1 : Option PV} {st : List PV} {M : Mem} {Q : Option PV → Mem → Prop} {x : Nat} : WP d 170 5 [l0, l1] (vr x :: st) M Q = WP d 170 6 [l0, l1] (st) M Q := w1 mC_170 d170_5 rfl rfl
theorem k170_5i {d : Nat} {l0 l1 : Option PV} {st : List PV} {M : Mem} {Q : Option PV → Mem → Prop} {x : Int32} : WP d 170 5 [l0, l1] (vi x :: st) M Q = WP d 170 6 [l0, l1] (st) M Q := w1 mC_170 d170_5 rfl rfl
theorem d170_6 : decode cJ4_append_cf468 6 = .ok (.aload_n 0, 1) := by decide +kernel
theorem k170_6 {d x : Nat} {l1 : Option PV} {st : List PV} {M : Mem} {Q : Option PV → Mem → Prop} : WP d 170 6 [some (vr x), l1] (st) M Q = WP d 170 7 [some (vr x), l1] (vr x :: st) M Q := w1 mC_170 d170_6 rfl rfl
theorem d170_7 : decode cJ4_append_cf468 7 = .ok (.areturn, 1) := by decide +kernel
theorem k170_7 {d : Nat} {l0 l1 : Option PV} {M : Mem} {Q : Option PV → Mem → Prop} {r : Nat} (hr : 2 ≤ r) : WP d 170 7 [l0, l1] ([vr r]) M Q = Q (some (vr r)) M := w_aret mC_170 d170_7 rfl hr
theorem d171_0 : decode cJ4_append_bf812 0 = .ok (.aload_n 0, 1) := by decide +kernel
theorem k171_0 {d x : Nat} {l1 : Option PV} {st : List PV} {M : Mem} {Q : Option PV → Mem → Prop} : WP d 171 0 [some (vr x), l1] (st) M Q = WP d 171 1 [some (vr x), l1] (vr x :: st) M Q := w1 mC_171 d171_0 rfl rfl
theorem d171_1 : decode cJ4_append_bf812 1 = .ok (.iload_n 1, 1) := by decide +kernel
theorem k171_1 {d : Nat} {x : Int32} {l0 : Option PV} {st : List PV} {M : Mem} {Q : Option PV → Mem → Prop} : WP d 171 1 [l0, some (vi x)] (st) M Q = WP d 171 2 [l0, some (vi x)] (vi x :: st) M Q := w1 mC_171 d171_1 rfl rfl
theorem d171_2 : decode cJ4_append_bf812 2 = .ok (.invokespecial 53, 3) := by decide +kernel
theorem k171_2 {d : Nat} {l0 l1 : Option PV} {st : List PV} {M : Mem} {Q : Option PV → Mem → Prop} {a0 : Int32} {r : Nat} (hl : szL st ≤ 8) (hk : mK M r = 0) : WP (d + 1) 171 2 [l0, l1] (vi a0 :: vr r :: st) M Q = WP d 153 0 [some (vr r), some (vi a0), none, none] [] M (fun v M' => WP (d + 1) 171 5 [l0, l1] (psh v st) M' Q) := w_callP mC_171 d171_2 rfl rfl rfl rfl (Nat.le_of_ble_eq_true rfl) (by decide) rfl hl hk
theorem d171_5 : decode cJ4_append_bf812 5 = .ok (.pop, 1) := by decide +kernel
theorem k171_5 {d : Nat} {l0 l1 : Option PV} {st : List PV} {M : Mem} {Q : Option PV → Mem → Prop} {x : Nat} : WP d 171 5 [l0, l1] (vr x :: st) M Q = WP d 171 6 [l0, l1] (st) M Q := w1 mC_171 d171_5 rfl rfl
theorem k171_5i {d : Nat} {l0 l1 : Option PV} {st : List PV} {M : Mem} {Q : Option PV → Mem → Prop} {x : Int32} : WP d 171 5 [l0, l1] (vi x :: st) M Q = WP d 171 6 [l0, l1] (st) M Q := w1 mC_171 d171_5 rfl rfl
theorem d171_6 : decode cJ4_append_bf812 6 = .ok (.aload_n 0, 1) := by decide +kernel
theorem k171_6 {d x : Nat} {l1 : Option PV} {st : List PV} {M : Mem} {Q : Option PV → Mem → Prop} : WP d 171 6 [some (vr x), l1] (st) M Q = WP d 171 7 [some (vr x), l1] (vr x :: st) M Q := w1 mC_171 d171_6 rfl rfl
theorem d171_7 : decode cJ4_append_bf812 7 = .ok (.areturn, 1) := by decide +kernel
theorem k171_7 {d : Nat} {l0 l1 : Option PV} {M : Mem} {Q : Option PV → Mem → Prop} {r : Nat} (hr : 2 ≤ r) : WP d 171 7 [l0, l1] ([vr r]) M Q = Q (some (vr r)) M := w_aret mC_171 d171_7 rfl hr
theorem d172_0 : decode cJ4_toString_0e30d 0 = .ok (.new 18, 3) := by decide +kernel
theorem k172_0 {d : Nat} {l0 : Option PV} {st : List PV} {M : Mem} {Q : Option PV → Mem → Prop} : WP d 172 0 [l0] (st) M Q = WP d 172 3 [l0] (vr (mX M) :: st) (nw M 1 0 4) Q := w_new mC_172 d172_0 (k := 1) rfl
theorem d172_3 : decode cJ4_toString_0e30d 3 = .ok (.dup, 1) := by decide +kernel
theorem k172_3 {d : Nat} {l0 : Option PV} {st : List PV} {M : Mem} {Q : Option PV → Mem → Prop} {x : Nat} : WP d 172 3 [l0] (vr x :: st) M Q = WP d 172 4 [l0] (vr x :: vr x :: st) M Q := w1 mC_172 d172_3 rfl rfl
theorem k172_3i {d : Nat} {l0 : Option PV} {st : List PV} {M : Mem} {Q : Option PV → Mem → Prop} {x : Int32} : WP d 172 3 [l0] (vi x :: st) M Q = WP d 172 4 [l0] (vi x :: vi x :: st) M Q := w1 mC_172 d172_3 rfl rfl
theorem d172_4 : decode cJ4_toString_0e30d 4 = .ok (.aload_n 0, 1) := by decide +kernel
theorem k172_4 {d x : Nat} {st : List PV} {M : Mem} {Q : Option PV → Mem → Prop} : WP d 172 4 [some (vr x)] (st) M Q = WP d 172 5 [some (vr x)] (vr x :: st) M Q := w1 mC_172 d172_4 rfl rfl
theorem d172_5 : decode cJ4_toString_0e30d 5 = .ok (.invokespecial 137, 3) := by decide +kernel
theorem k172_5 {d : Nat} {l0 : Option PV} {st : List PV} {M : Mem} {Q : Option PV → Mem → Prop} {a0 : Nat} {r : Nat} (hl : szL st ≤ 8) (hk : mK M r < 13) : WP (d + 1) 172 5 [l0] (vr a0 :: vr r :: st) M Q = WP d 160 0 [some (vr r), some (vr a0)] [] M (fun v M' => WP (d + 1) 172 8 [l0] (psh v st) M' Q) := w_callI mC_172 d172_5 rfl rfl (Nat.le_of_ble_eq_true rfl) (by decide) rfl hl hk
theorem d172_8 : decode cJ4_toString_0e30d 8 = .ok (.areturn, 1) := by decide +kernel
theorem k172_8 {d : Nat} {l0 : Option PV} {M : Mem} {Q : Option PV → Mem → Prop} {r : Nat} (hr : 2 ≤ r) : WP d 172 8 [l0] ([vr r]) M Q = Q (some (vr r)) M := w_aret mC_172 d172_8 rfl hr
theorem d173_0 : decode cJ4_length_8abf5 0 = .ok (.aload_n 0, 1) := by decide +kernel
theorem k173_0 {d x : Nat} {st : List PV} {M : Mem} {Q : Option PV → Mem → Prop} : WP d 173 0 [some (vr x)] (st) M Q = WP d 173 1 [some (vr x)] (vr x :: st) M Q := w1 mC_173 d173_0 rfl rfl
theorem d173_1 : decode cJ4_length_8abf5 1 = .ok (.invokespecial 343, 3) := by decide +kernel
theorem k173_1 {d : Nat} {l0 : Option PV} {st : List PV} {M : Mem} {Q : Option PV → Mem → Prop} {r : Nat} (hl : szL st ≤ 8) (hk : mK M r = 0) : WP (d + 1) 173 1 [l0] (vr r :: st) M Q = WP d 148 0 [some (vr r)] [] M (fun v M' => WP (d + 1) 173 4 [l0] (psh v st) M' Q) := w_callP mC_173 d173_1 rfl rfl rfl rfl (Nat.le_of_ble_eq_true rfl) (by decide) rfl hl hk
theorem d173_4 : decode cJ4_length_8abf5 4 = .ok (.ireturn, 1) := by decide +kernel
theorem k173_4 {d : Nat} {l0 : Option PV} {M : Mem} {Q : Option PV → Mem → Prop} {x : Int32} : WP d 173 4 [l0] ([vi x]) M Q = Q (some (vi x)) M := w_iret mC_173 d173_4 rfl
theorem d174_0 : decode cJ1_charAt_3b067 0 = .ok (.iload_n 1, 1) := by decide +kernel
theorem k174_0 {d : Nat} {x : Int32} {l0 : Option PV} {st : List PV} {M : Mem} {Q : Option PV → Mem → Prop} : WP d 174 0 [l0, some (vi x)] (st) M Q = WP d 174 1 [l0, some (vi x)] (vi x :: st) M Q := w1 mC_174 d174_0 rfl rfl
theorem d174_1 : decode cJ1_charAt_3b067 1 = .ok (.aload_n 0, 1) := by decide +kernel
theorem k174_1 {d x : Nat} {l1 : Option PV} {st : List PV} {M : Mem} {Q : Option PV → Mem → Prop} : WP d 174 1 [some (vr x), l1] (st) M Q = WP d 174 2 [some (vr x), l1] (vr x :: st) M Q := w1 mC_174 d174_1 rfl rfl
theorem d174_2 : decode cJ1_charAt_3b067 2 = .ok (.arraylength, 1) := by decide +kernel
theorem k174_2 {d : Nat} {l0 l1 : Option PV} {st : List PV} {M : Mem} {Q : Option PV → Mem → Prop} {r : Nat} (hk : 13 ≤ mK M r ∧ mK M r ≤ 19) : WP d 174 2 [l0, l1] (vr r :: st) M Q = WP d 174 3 [l0, l1] (vi (Int32.ofNat (mN M r)) :: st) M Q := w_alen mC_174 d174_2 hk
theorem d174_3 : decode cJ1_charAt_3b067 3 = .ok (.invokestatic 9, 3) := by decide +kernel
theorem k174_3 {d : Nat} {l0 l1 : Option PV} {st : List PV} {M : Mem} {Q : Option PV → Mem → Prop} {a0 a1 : Int32} (hl : szL st ≤ 8) : WP (d + 1) 174 3 [l0, l1] (vi a1 :: vi a0 :: st) M Q = WP d 167 0 [some (vi a0), some (vi a1)] [] M (fun v M' => WP (d + 1) 174 6 [l0, l1] (psh v st) M' Q) := w_callS mC_174 d174_3 rfl rfl (Nat.le_of_ble_eq_true rfl) (by decide) rfl hl
theorem d174_6 : decode cJ1_charAt_3b067 6 = .ok (.aload_n 0, 1) := by decide +kernel
theorem k174_6 {d x : Nat} {l1 : Option PV} {st : List PV} {M : Mem} {Q : Option PV → Mem → Prop} : WP d 174 6 [some (vr x), l1] (st) M Q = WP d 174 7 [some (vr x), l1] (vr x :: st) M Q := w1 mC_174 d174_6 rfl rfl
theorem d174_7 : decode cJ1_charAt_3b067 7 = .ok (.iload_n 1, 1) := by decide +kernel
theorem k174_7 {d : Nat} {x : Int32} {l0 : Option PV} {st : List PV} {M : Mem} {Q : Option PV → Mem → Prop} : WP d 174 7 [l0, some (vi x)] (st) M Q = WP d 174 8 [l0, some (vi x)] (vi x :: st) M Q := w1 mC_174 d174_7 rfl rfl
theorem d174_8 : decode cJ1_charAt_3b067 8 = .ok (.baload, 1) := by decide +kernel
theorem k174_8 {d : Nat} {l0 l1 : Option PV} {st : List PV} {M : Mem} {Q : Option PV → Mem → Prop} {r : Nat} {j : Int32} (hk : mK M r = 18 ∨ mK M r = 19) (hj : inb j (mN M r)) : WP d 174 8 [l0, l1] (vi j :: vr r :: st) M Q = WP d 174 9 [l0, l1] (vi (mI M r (ix j)) :: st) M Q := w_bald mC_174 d174_8 hk hj
theorem d174_9 : decode cJ1_charAt_3b067 9 = .ok (.sipush 255, 3) := by decide +kernel
theorem k174_9 {d : Nat} {l0 l1 : Option PV} {st : List PV} {M : Mem} {Q : Option PV → Mem → Prop} : WP d 174 9 [l0, l1] (st) M Q = WP d 174 12 [l0, l1] (vi 255 :: st) M Q := w_sipush mC_174 d174_9 (by decide)
theorem d174_12 : decode cJ1_charAt_3b067 12 = .ok (.iand, 1) := by decide +kernel
theorem k174_12 {d : Nat} {l0 l1 : Option PV} {st : List PV} {M : Mem} {Q : Option PV → Mem → Prop} {x y : Int32} : WP d 174 12 [l0, l1] (vi y :: vi x :: st) M Q = WP d 174 13 [l0, l1] (vi (x &&& y) :: st) M Q := w1 mC_174 d174_12 rfl rfl
theorem d174_13 : decode cJ1_charAt_3b067 13 = .ok (.i2c, 1) := by decide +kernel
theorem k174_13 {d : Nat} {l0 l1 : Option PV} {st : List PV} {M : Mem} {Q : Option PV → Mem → Prop} {x : Int32} : WP d 174 13 [l0, l1] (vi x :: st) M Q = WP d 174 14 [l0, l1] (vi (x.toUInt32 % 65536).toInt32 :: st) M Q := w1 mC_174 d174_13 rfl rfl
theorem d174_14 : decode cJ1_charAt_3b067 14 = .ok (.ireturn, 1) := by decide +kernel
theorem k174_14 {d : Nat} {l0 l1 : Option PV} {M : Mem} {Q : Option PV → Mem → Prop} {x : Int32} (hx : x.toUInt32.toUInt16.toUInt32.toInt32 = x) : WP d 174 14 [l0, l1] ([vi x]) M Q = Q (some (vi x)) M := w_cret mC_174 d174_14 rfl hx
theorem d175_0 : decode cJ1_canEncode_fc78d 0 = .ok (.iload_n 0, 1) := by decide +kernel
theorem k175_0 {d : Nat} {x : Int32} {st : List PV} {M : Mem} {Q : Option PV → Mem → Prop} : WP d 175 0 [some (vi x)] (st) M Q = WP d 175 1 [some (vi x)] (vi x :: st) M Q := w1 mC_175 d175_0 rfl rfl
theorem d175_1 : decode cJ1_canEncode_fc78d 1 = .ok (.sipush 255, 3) := by decide +kernel
theorem k175_1 {d : Nat} {l0 : Option PV} {st : List PV} {M : Mem} {Q : Option PV → Mem → Prop} : WP d 175 1 [l0] (st) M Q = WP d 175 4 [l0] (vi 255 :: st) M Q := w_sipush mC_175 d175_1 (by decide)
theorem d175_4 : decode cJ1_canEncode_fc78d 4 = .ok (.if_icmp .gt 7, 3) := by decide +kernel
theorem k175_4 {d : Nat} {l0 : Option PV} {st : List PV} {M : Mem} {Q : Option PV → Mem → Prop} {x y : Int32} : WP d 175 4 [l0] (vi y :: vi x :: st) M Q = (if y < x then WP d 175 11 [l0] (st) M Q else WP d 175 7 [l0] (st) M Q) := w_ic_gt mC_175 d175_4 (by decide)
theorem d175_7 : decode cJ1_canEncode_fc78d 7 = .ok (.iconst 1, 1) := by decide +kernel
theorem k175_7 {d : Nat} {l0 : Option PV} {st : List PV} {M : Mem} {Q : Option PV → Mem → Prop} : WP d 175 7 [l0] (st) M Q = WP d 175 8 [l0] (vi 1 :: st) M Q := w_iconst mC_175 d175_7 (by decide)
theorem d175_8 : decode cJ1_canEncode_fc78d 8 = .ok (.goto 4, 3) := by decide +kernel
theorem k175_8 {d : Nat} {l0 : Option PV} {st : List PV} {M : Mem} {Q : Option PV → Mem → Prop} : WP d 175 8 [l0] (st) M Q = WP d 175 12 [l0] (st) M Q := w_goto mC_175 d175_8 (by decide)
theorem d175_11 : decode cJ1_canEncode_fc78d 11 = .ok (.iconst 0, 1) := by decide +kernel
theorem k175_11 {d : Nat} {l0 : Option PV} {st : List PV} {M : Mem} {Q : Option PV → Mem → Prop} : WP d 175 11 [l0] (st) M Q = WP d 175 12 [l0] (vi 0 :: st) M Q := w_iconst mC_175 d175_11 (by decide)
theorem d175_12 : decode cJ1_canEncode_fc78d 12 = .ok (.ireturn, 1) := by decide +kernel
theorem k175_12 {d : Nat} {l0 : Option PV} {M : Mem} {Q : Option PV → Mem → Prop} {x : Int32} (hx : x = 0 ∨ x = 1) : WP d 175 12 [l0] ([vi x]) M Q = Q (some (vi x)) M := w_zret mC_175 d175_12 rfl hx
theorem d176_0 : decode cJ7_copyOf_9075b 0 = .ok (.iload_n 1, 1) := by decide +kernel
theorem k176_0 {d : Nat} {x : Int32} {l0 l2 : Option PV} {st : List PV} {M : Mem} {Q : Option PV → Mem → Prop} : WP d 176 0 [l0, some (vi x), l2] (st) M Q = WP d 176 1 [l0, some (vi x), l2] (vi x :: st) M Q := w1 mC_176 d176_0 rfl rfl
theorem d176_1 : decode cJ7_copyOf_9075b 1 = .ok (.aload_n 0, 1) := by decide +kernel
theorem k176_1 {d x : Nat} {l1 l2 : Option PV} {st : List PV} {M : Mem} {Q : Option PV → Mem → Prop} : WP d 176 1 [some (vr x), l1, l2] (st) M Q = WP d 176 2 [some (vr x), l1, l2] (vr x :: st) M Q := w1 mC_176 d176_1 rfl rfl
theorem d176_2 : decode cJ7_copyOf_9075b 2 = .ok (.arraylength, 1) := by decide +kernel
theorem k176_2 {d : Nat} {l0 l1 l2 : Option PV} {st : List PV} {M : Mem} {Q : Option PV → Mem → Prop} {r : Nat} (hk : 13 ≤ mK M r ∧ mK M r ≤ 19) : WP d 176 2 [l0, l1, l2] (vr r :: st) M Q = WP d 176 3 [l0, l1, l2] (vi (Int32.ofNat (mN M r)) :: st) M Q := w_alen mC_176 d176_2 hk
theorem d176_3 : decode cJ7_copyOf_9075b 3 = .ok (.if_icmp .ne 11, 3) := by decide +kernel
theorem k176_3 {d : Nat} {l0 l1 l2 : Option PV} {st : List PV} {M : Mem} {Q : Option PV → Mem → Prop} {x y : Int32} : WP d 176 3 [l0, l1, l2] (vi y :: vi x :: st) M Q = (if x = y then WP d 176 6 [l0, l1, l2] (st) M Q else WP d 176 14 [l0, l1, l2] (st) M Q) := w_ic_ne mC_176 d176_3 (by decide)
theorem d176_6 : decode cJ7_copyOf_9075b 6 = .ok (.aload_n 0, 1) := by decide +kernel
theorem k176_6 {d x : Nat} {l1 l2 : Option PV} {st : List PV} {M : Mem} {Q : Option PV → Mem → Prop} : WP d 176 6 [some (vr x), l1, l2] (st) M Q = WP d 176 7 [some (vr x), l1, l2] (vr x :: st) M Q := w1 mC_176 d176_6 rfl rfl
theorem d176_7 : decode cJ7_copyOf_9075b 7 = .ok (.invokevirtual 310, 3) := by decide +kernel
theorem k176_7 {d : Nat} {l0 l1 l2 : Option PV} {st : List PV} {M : Mem} {Q : Option PV → Mem → Prop} {r : Nat} (hl : szL st ≤ 8) (hk : mK M r = 18) : WP d 176 7 [l0, l1, l2] (vr r :: st) M Q = WP d 176 10 [l0, l1, l2] (vr (mX M) :: st) (nwc M r) Q := w_cln mC_176 d176_7 rfl rfl hk hl
theorem d176_10 : decode cJ7_copyOf_9075b 10 = .ok (.checkcast 311, 3) := by decide +kernel
theorem k176_10 {d : Nat} {l0 l1 l2 : Option PV} {st : List PV} {M : Mem} {Q : Option PV → Mem → Prop} {r : Nat} (hk : mK M r = 18) : WP d 176 10 [l0, l1, l2] (vr r :: st) M Q = WP d 176 13 [l0, l1, l2] (vr r :: st) M Q := w_cast mC_176 d176_10 rfl hk
theorem d176_13 : decode cJ7_copyOf_9075b 13 = .ok (.areturn, 1) := by decide +kernel
theorem k176_13 {d : Nat} {l0 l1 l2 : Option PV} {M : Mem} {Q : Option PV → Mem → Prop} {r : Nat} (hr : 2 ≤ r) : WP d 176 13 [l0, l1, l2] ([vr r]) M Q = Q (some (vr r)) M := w_areta mC_176 d176_13 rfl hr
theorem d176_14 : decode cJ7_copyOf_9075b 14 = .ok (.iload_n 1, 1) := by decide +kernel
theorem k176_14 {d : Nat} {x : Int32} {l0 l2 : Option PV} {st : List PV} {M : Mem} {Q : Option PV → Mem → Prop} : WP d 176 14 [l0, some (vi x), l2] (st) M Q = WP d 176 15 [l0, some (vi x), l2] (vi x :: st) M Q := w1 mC_176 d176_14 rfl rfl
theorem d176_15 : decode cJ7_copyOf_9075b 15 = .ok (.newarray .byte, 2) := by decide +kernel
theorem k176_15 {d : Nat} {l0 l1 l2 : Option PV} {st : List PV} {M : Mem} {Q : Option PV → Mem → Prop} {x : Int32} (hx : ¬ x < 0 ∧ ix x ≤ 100000) : WP d 176 15 [l0, l1, l2] (vi x :: st) M Q = WP d 176 17 [l0, l1, l2] (vr (mX M) :: st) (nw M 18 (ix x) (ix x)) Q := w_nwb mC_176 d176_15 hx
theorem d176_17 : decode cJ7_copyOf_9075b 17 = .ok (.astore_n 2, 1) := by decide +kernel
theorem k176_17 {d : Nat} {l0 l1 l2 : Option PV} {st : List PV} {M : Mem} {Q : Option PV → Mem → Prop} {x : Nat} : WP d 176 17 [l0, l1, l2] (vr x :: st) M Q = WP d 176 18 [l0, l1, some (vr x)] (st) M Q := w1 mC_176 d176_17 rfl rfl
theorem d176_18 : decode cJ7_copyOf_9075b 18 = .ok (.aload_n 0, 1) := by decide +kernel
theorem k176_18 {d x : Nat} {l1 l2 : Option PV} {st : List PV} {M : Mem} {Q : Option PV → Mem → Prop} : WP d 176 18 [some (vr x), l1, l2] (st) M Q = WP d 176 19 [some (vr x), l1, l2] (vr x :: st) M Q := w1 mC_176 d176_18 rfl rfl
theorem d176_19 : decode cJ7_copyOf_9075b 19 = .ok (.iconst 0, 1) := by decide +kernel
theorem k176_19 {d : Nat} {l0 l1 l2 : Option PV} {st : List PV} {M : Mem} {Q : Option PV → Mem → Prop} : WP d 176 19 [l0, l1, l2] (st) M Q = WP d 176 20 [l0, l1, l2] (vi 0 :: st) M Q := w_iconst mC_176 d176_19 (by decide)
theorem d176_20 : decode cJ7_copyOf_9075b 20 = .ok (.aload_n 2, 1) := by decide +kernel
theorem k176_20 {d x : Nat} {l0 l1 : Option PV} {st : List PV} {M : Mem} {Q : Option PV → Mem → Prop} : WP d 176 20 [l0, l1, some (vr x)] (st) M Q = WP d 176 21 [l0, l1, some (vr x)] (vr x :: st) M Q := w1 mC_176 d176_20 rfl rfl
theorem d176_21 : decode cJ7_copyOf_9075b 21 = .ok (.iconst 0, 1) := by decide +kernel
theorem k176_21 {d : Nat} {l0 l1 l2 : Option PV} {st : List PV} {M : Mem} {Q : Option PV → Mem → Prop} : WP d 176 21 [l0, l1, l2] (st) M Q = WP d 176 22 [l0, l1, l2] (vi 0 :: st) M Q := w_iconst mC_176 d176_21 (by decide)
theorem d176_22 : decode cJ7_copyOf_9075b 22 = .ok (.aload_n 0, 1) := by decide +kernel
theorem k176_22 {d x : Nat} {l1 l2 : Option PV} {st : List PV} {M : Mem} {Q : Option PV → Mem → Prop} : WP d 176 22 [some (vr x), l1, l2] (st) M Q = WP d 176 23 [some (vr x), l1, l2] (vr x :: st) M Q := w1 mC_176 d176_22 rfl rfl
theorem d176_23 : decode cJ7_copyOf_9075b 23 = .ok (.arraylength, 1) := by decide +kernel
theorem k176_23 {d : Nat} {l0 l1 l2 : Option PV} {st : List PV} {M : Mem} {Q : Option PV → Mem → Prop} {r : Nat} (hk : 13 ≤ mK M r ∧ mK M r ≤ 19) : WP d 176 23 [l0, l1, l2] (vr r :: st) M Q = WP d 176 24 [l0, l1, l2] (vi (Int32.ofNat (mN M r)) :: st) M Q := w_alen mC_176 d176_23 hk
theorem d176_24 : decode cJ7_copyOf_9075b 24 = .ok (.iload_n 1, 1) := by decide +kernel
theorem k176_24 {d : Nat} {x : Int32} {l0 l2 : Option PV} {st : List PV} {M : Mem} {Q : Option PV → Mem → Prop} : WP d 176 24 [l0, some (vi x), l2] (st) M Q = WP d 176 25 [l0, some (vi x), l2] (vi x :: st) M Q := w1 mC_176 d176_24 rfl rfl
theorem d176_25 : decode cJ7_copyOf_9075b 25 = .ok (.invokestatic 304, 3) := by decide +kernel
theorem k176_25 {d : Nat} {l0 l1 l2 : Option PV} {st : List PV} {M : Mem} {Q : Option PV → Mem → Prop} {x y : Int32} (hl : szL st ≤ 8) : WP d 176 25 [l0, l1, l2] (vi y :: vi x :: st) M Q = WP d 176 28 [l0, l1, l2] (vi (if y < x then y else x) :: st) M Q := w_min mC_176 d176_25 rfl rfl rfl hl
theorem d176_28 : decode cJ7_copyOf_9075b 28 = .ok (.invokestatic 150, 3) := by decide +kernel
theorem k176_28 {d : Nat} {l0 l1 l2 : Option PV} {st : List PV} {M : Mem} {Q : Option PV → Mem → Prop} {a b : Nat} {sp dp q : Int32} (hl : szL st ≤ 8) (h1 : ¬ sp < 0 ∧ ¬ dp < 0 ∧ ¬ q < 0 ∧ ix sp + ix q ≤ mN M b ∧ ix dp + ix q ≤ mN M a ∧ a ≠ 1 ∧ b ≠ 1) (hk : mK M a = 13) (hk2 : mK M b = 13) : WP d 176 28 [l0, l1, l2] (vi q :: vi dp :: vr a :: vi sp :: vr b :: st) M Q = WP d 176 31 [l0, l1, l2] (st) (cI M b (ix sp) a (ix dp) (ix q)) Q := w_copyI mC_176 d176_28 rfl rfl rfl hl h1 hk hk2
theorem k176_28l {d : Nat} {l0 l1 l2 : Option PV} {st : List PV} {M : Mem} {Q : Option PV → Mem → Prop} {a b : Nat} {sp dp q : Int32} (hl : szL st ≤ 8) (h1 : ¬ sp < 0 ∧ ¬ dp < 0 ∧ ¬ q < 0 ∧ ix sp + ix q ≤ mN M b ∧ ix dp + ix q ≤ mN M a ∧ a ≠ 1 ∧ b ≠ 1) (hk : mK M a = 14) (hk2 : mK M b = 14) : WP d 176 28 [l0, l1, l2] (vi q :: vi dp :: vr a :: vi sp :: vr b :: st) M Q = WP d 176 31 [l0, l1, l2] (st) (cJ M b (ix sp) a (ix dp) (ix q)) Q := w_copyJ mC_176 d176_28 rfl rfl rfl hl h1 hk hk2
theorem k176_28b {d : Nat} {l0 l1 l2 : Option PV} {st : List PV} {M : Mem} {Q : Option PV → Mem → Prop} {a b : Nat} {sp dp q : Int32} (hl : szL st ≤ 8) (h1 : ¬ sp < 0 ∧ ¬ dp < 0 ∧ ¬ q < 0 ∧ ix sp + ix q ≤ mN M b ∧ ix dp + ix q ≤ mN M a ∧ a ≠ 1 ∧ b ≠ 1) (hk : mK M a = 18) (hk2 : mK M b = 18 ∨ mK M b = 19) : WP d 176 28 [l0, l1, l2] (vi q :: vi dp :: vr a :: vi sp :: vr b :: st) M Q = WP d 176 31 [l0, l1, l2] (st) (cI M b (ix sp) a (ix dp) (ix q)) Q := w_copyB mC_176 d176_28 rfl rfl rfl hl h1 hk hk2
theorem d176_31 : decode cJ7_copyOf_9075b 31 = .ok (.aload_n 2, 1) := by decide +kernel
theorem k176_31 {d x : Nat} {l0 l1 : Option PV} {st : List PV} {M : Mem} {Q : Option PV → Mem → Prop} : WP d 176 31 [l0, l1, some (vr x)] (st) M Q = WP d 176 32 [l0, l1, some (vr x)] (vr x :: st) M Q := w1 mC_176 d176_31 rfl rfl
theorem d176_32 : decode cJ7_copyOf_9075b 32 = .ok (.areturn, 1) := by decide +kernel
theorem k176_32 {d : Nat} {l0 l1 l2 : Option PV} {M : Mem} {Q : Option PV → Mem → Prop} {r : Nat} (hr : 2 ≤ r) : WP d 176 32 [l0, l1, l2] ([vr r]) M Q = Q (some (vr r)) M := w_areta mC_176 d176_32 rfl hr
theorem d177_0 : decode cJ7_checkLength_df160 0 = .ok (.iload_n 1, 1) := by decide +kernel
theorem k177_0 {d : Nat} {x : Int32} {l0 : Option PV} {st : List PV} {M : Mem} {Q : Option PV → Mem → Prop} : WP d 177 0 [l0, some (vi x)] (st) M Q = WP d 177 1 [l0, some (vi x)] (vi x :: st) M Q := w1 mC_177 d177_0 rfl rfl
theorem d177_1 : decode cJ7_checkLength_df160 1 = .ok (.iload_n 0, 1) := by decide +kernel
theorem k177_1 {d : Nat} {x : Int32} {l1 : Option PV} {st : List PV} {M : Mem} {Q : Option PV → Mem → Prop} : WP d 177 1 [some (vi x), l1] (st) M Q = WP d 177 2 [some (vi x), l1] (vi x :: st) M Q := w1 mC_177 d177_1 rfl rfl
theorem d177_2 : decode cJ7_checkLength_df160 2 = .ok (.if_icmp .ge 35, 3) := by decide +kernel
theorem k177_2 {d : Nat} {l0 l1 : Option PV} {st : List PV} {M : Mem} {Q : Option PV → Mem → Prop} {x y : Int32} : WP d 177 2 [l0, l1] (vi y :: vi x :: st) M Q = (if y ≤ x then WP d 177 37 [l0, l1] (st) M Q else WP d 177 5 [l0, l1] (st) M Q) := w_ic_ge mC_177 d177_2 (by decide)
theorem d177_8 : decode cJ7_checkLength_df160 8 = .ok (.dup, 1) := by decide +kernel
theorem k177_8 {d : Nat} {l0 l1 : Option PV} {st : List PV} {M : Mem} {Q : Option PV → Mem → Prop} {x : Nat} : WP d 177 8 [l0, l1] (vr x :: st) M Q = WP d 177 9 [l0, l1] (vr x :: vr x :: st) M Q := w1 mC_177 d177_8 rfl rfl
theorem k177_8i {d : Nat} {l0 l1 : Option PV} {st : List PV} {M : Mem} {Q : Option PV → Mem → Prop} {x : Int32} : WP d 177 8 [l0, l1] (vi x :: st) M Q = WP d 177 9 [l0, l1] (vi x :: vi x :: st) M Q := w1 mC_177 d177_8 rfl rfl
theorem d177_12 : decode cJ7_checkLength_df160 12 = .ok (.dup, 1) := by decide +kernel
theorem k177_12 {d : Nat} {l0 l1 : Option PV} {st : List PV} {M : Mem} {Q : Option PV → Mem → Prop} {x : Nat} : WP d 177 12 [l0, l1] (vr x :: st) M Q = WP d 177 13 [l0, l1] (vr x :: vr x :: st) M Q := w1 mC_177 d177_12 rfl rfl
theorem k177_12i {d : Nat} {l0 l1 : Option PV} {st : List PV} {M : Mem} {Q : Option PV → Mem → Prop} {x : Int32} : WP d 177 12 [l0, l1] (vi x :: st) M Q = WP d 177 13 [l0, l1] (vi x :: vi x :: st) M Q := w1 mC_177 d177_12 rfl rfl
theorem d177_16 : decode cJ7_checkLength_df160 16 = .ok (.iload_n 0, 1) := by decide +kernel
theorem k177_16 {d : Nat} {x : Int32} {l1 : Option PV} {st : List PV} {M : Mem} {Q : Option PV → Mem → Prop} : WP d 177 16 [some (vi x), l1] (st) M Q = WP d 177 17 [some (vi x), l1] (vi x :: st) M Q := w1 mC_177 d177_16 rfl rfl
theorem d177_26 : decode cJ7_checkLength_df160 26 = .ok (.iload_n 1, 1) := by decide +kernel
theorem k177_26 {d : Nat} {x : Int32} {l0 : Option PV} {st : List PV} {M : Mem} {Q : Option PV → Mem → Prop} : WP d 177 26 [l0, some (vi x)] (st) M Q = WP d 177 27 [l0, some (vi x)] (vi x :: st) M Q := w1 mC_177 d177_26 rfl rfl
theorem d177_37 : decode cJ7_checkLength_df160 37 = .ok (.return_, 1) := by decide +kernel
theorem k177_37 {d : Nat} {l0 l1 : Option PV} {M : Mem} {Q : Option PV → Mem → Prop} : WP d 177 37 [l0, l1] ([]) M Q = Q none M := w_vret mC_177 d177_37 rfl
theorem d178_0 : decode cJ7_copyOfRange_39247 0 = .ok (.iload_n 1, 1) := by decide +kernel
theorem k178_0 {d : Nat} {x : Int32} {l0 l2 : Option PV} {st : List PV} {M : Mem} {Q : Option PV → Mem → Prop} : WP d 178 0 [l0, some (vi x), l2] (st) M Q = WP d 178 1 [l0, some (vi x), l2] (vi x :: st) M Q := w1 mC_178 d178_0 rfl rfl
theorem d178_1 : decode cJ7_copyOfRange_39247 1 = .ok (.ifCond .ne 9, 3) := by decide +kernel
theorem k178_1 {d : Nat} {l0 l1 l2 : Option PV} {st : List PV} {M : Mem} {Q : Option PV → Mem → Prop} {x : Int32} : WP d 178 1 [l0, l1, l2] (vi x :: st) M Q = (if x = 0 then WP d 178 4 [l0, l1, l2] (st) M Q else WP d 178 10 [l0, l1, l2] (st) M Q) := w_if_ne mC_178 d178_1 (by decide)
theorem d178_4 : decode cJ7_copyOfRange_39247 4 = .ok (.iload_n 2, 1) := by decide +kernel
theorem k178_4 {d : Nat} {x : Int32} {l0 l1 : Option PV} {st : List PV} {M : Mem} {Q : Option PV → Mem → Prop} : WP d 178 4 [l0, l1, some (vi x)] (st) M Q = WP d 178 5 [l0, l1, some (vi x)] (vi x :: st) M Q := w1 mC_178 d178_4 rfl rfl
theorem d178_5 : decode cJ7_copyOfRange_39247 5 = .ok (.aload_n 0, 1) := by decide +kernel
theorem k178_5 {d x : Nat} {l1 l2 : Option PV} {st : List PV} {M : Mem} {Q : Option PV → Mem → Prop} : WP d 178 5 [some (vr x), l1, l2] (st) M Q = WP d 178 6 [some (vr x), l1, l2] (vr x :: st) M Q := w1 mC_178 d178_5 rfl rfl
theorem d178_6 : decode cJ7_copyOfRange_39247 6 = .ok (.arraylength, 1) := by decide +kernel
theorem k178_6 {d : Nat} {l0 l1 l2 : Option PV} {st : List PV} {M : Mem} {Q : Option PV → Mem → Prop} {r : Nat} (hk : 13 ≤ mK M r ∧ mK M r ≤ 19) : WP d 178 6 [l0, l1, l2] (vr r :: st) M Q = WP d 178 7 [l0, l1, l2] (vi (Int32.ofNat (mN M r)) :: st) M Q := w_alen mC_178 d178_6 hk
theorem d178_7 : decode cJ7_copyOfRange_39247 7 = .ok (.if_icmp .eq 10, 3) := by decide +kernel
theorem k178_7 {d : Nat} {l0 l1 l2 : Option PV} {st : List PV} {M : Mem} {Q : Option PV → Mem → Prop} {x y : Int32} : WP d 178 7 [l0, l1, l2] (vi y :: vi x :: st) M Q = (if x = y then WP d 178 17 [l0, l1, l2] (st) M Q else WP d 178 10 [l0, l1, l2] (st) M Q) := w_ic_eq mC_178 d178_7 (by decide)
theorem d178_10 : decode cJ7_copyOfRange_39247 10 = .ok (.aload_n 0, 1) := by decide +kernel
theorem k178_10 {d x : Nat} {l1 l2 : Option PV} {st : List PV} {M : Mem} {Q : Option PV → Mem → Prop} : WP d 178 10 [some (vr x), l1, l2] (st) M Q = WP d 178 11 [some (vr x), l1, l2] (vr x :: st) M Q := w1 mC_178 d178_10 rfl rfl
theorem d178_11 : decode cJ7_copyOfRange_39247 11 = .ok (.iload_n 1, 1) := by decide +kernel
theorem k178_11 {d : Nat} {x : Int32} {l0 l2 : Option PV} {st : List PV} {M : Mem} {Q : Option PV → Mem → Prop} : WP d 178 11 [l0, some (vi x), l2] (st) M Q = WP d 178 12 [l0, some (vi x), l2] (vi x :: st) M Q := w1 mC_178 d178_11 rfl rfl
theorem d178_12 : decode cJ7_copyOfRange_39247 12 = .ok (.iload_n 2, 1) := by decide +kernel
theorem k178_12 {d : Nat} {x : Int32} {l0 l1 : Option PV} {st : List PV} {M : Mem} {Q : Option PV → Mem → Prop} : WP d 178 12 [l0, l1, some (vi x)] (st) M Q = WP d 178 13 [l0, l1, some (vi x)] (vi x :: st) M Q := w1 mC_178 d178_12 rfl rfl
theorem d178_13 : decode cJ7_copyOfRange_39247 13 = .ok (.invokestatic 339, 3) := by decide +kernel
theorem k178_13 {d : Nat} {l0 l1 l2 : Option PV} {st : List PV} {M : Mem} {Q : Option PV → Mem → Prop} {a1 a2 : Int32} {a0 : Nat} (hl : szL st ≤ 8) : WP (d + 1) 178 13 [l0, l1, l2] (vi a2 :: vi a1 :: vr a0 :: st) M Q = WP d 179 0 [some (vr a0), some (vi a1), some (vi a2), none, none] [] M (fun v M' => WP (d + 1) 178 16 [l0, l1, l2] (psh v st) M' Q) := w_callS mC_178 d178_13 rfl rfl (Nat.le_of_ble_eq_true rfl) (by decide) rfl hl
theorem d178_16 : decode cJ7_copyOfRange_39247 16 = .ok (.areturn, 1) := by decide +kernel
theorem k178_16 {d : Nat} {l0 l1 l2 : Option PV} {M : Mem} {Q : Option PV → Mem → Prop} {r : Nat} (hr : 2 ≤ r) : WP d 178 16 [l0, l1, l2] ([vr r]) M Q = Q (some (vr r)) M := w_areta mC_178 d178_16 rfl hr
theorem d178_17 : decode cJ7_copyOfRange_39247 17 = .ok (.aload_n 0, 1) := by decide +kernel
theorem k178_17 {d x : Nat} {l1 l2 : Option PV} {st : List PV} {M : Mem} {Q : Option PV → Mem → Prop} : WP d 178 17 [some (vr x), l1, l2] (st) M Q = WP d 178 18 [some (vr x), l1, l2] (vr x :: st) M Q := w1 mC_178 d178_17 rfl rfl
theorem d178_18 : decode cJ7_copyOfRange_39247 18 = .ok (.invokevirtual 310, 3) := by decide +kernel
theorem k178_18 {d : Nat} {l0 l1 l2 : Option PV} {st : List PV} {M : Mem} {Q : Option PV → Mem → Prop} {r : Nat} (hl : szL st ≤ 8) (hk : mK M r = 18) : WP d 178 18 [l0, l1, l2] (vr r :: st) M Q = WP d 178 21 [l0, l1, l2] (vr (mX M) :: st) (nwc M r) Q := w_cln mC_178 d178_18 rfl rfl hk hl
theorem d178_21 : decode cJ7_copyOfRange_39247 21 = .ok (.checkcast 311, 3) := by decide +kernel
theorem k178_21 {d : Nat} {l0 l1 l2 : Option PV} {st : List PV} {M : Mem} {Q : Option PV → Mem → Prop} {r : Nat} (hk : mK M r = 18) : WP d 178 21 [l0, l1, l2] (vr r :: st) M Q = WP d 178 24 [l0, l1, l2] (vr r :: st) M Q := w_cast mC_178 d178_21 rfl hk
theorem d178_24 : decode cJ7_copyOfRange_39247 24 = .ok (.areturn, 1) := by decide +kernel
theorem k178_24 {d : Nat} {l0 l1 l2 : Option PV} {M : Mem} {Q : Option PV → Mem → Prop} {r : Nat} (hr : 2 ≤ r) : WP d 178 24 [l0, l1, l2] ([vr r]) M Q = Q (some (vr r)) M := w_areta mC_178 d178_24 rfl hr
theorem d179_0 : decode cJ7_copyOfRangeByte_39247 0 = .ok (.iload_n 1, 1) := by decide +kernel
theorem k179_0 {d : Nat} {x : Int32} {l0 l2 l3 l4 : Option PV} {st : List PV} {M : Mem} {Q : Option PV → Mem → Prop} : WP d 179 0 [l0, some (vi x), l2, l3, l4] (st) M Q = WP d 179 1 [l0, some (vi x), l2, l3, l4] (vi x :: st) M Q := w1 mC_179 d179_0 rfl rfl
theorem d179_1 : decode cJ7_copyOfRangeByte_39247 1 = .ok (.iload_n 2, 1) := by decide +kernel
theorem k179_1 {d : Nat} {x : Int32} {l0 l1 l3 l4 : Option PV} {st : List PV} {M : Mem} {Q : Option PV → Mem → Prop} : WP d 179 1 [l0, l1, some (vi x), l3, l4] (st) M Q = WP d 179 2 [l0, l1, some (vi x), l3, l4] (vi x :: st) M Q := w1 mC_179 d179_1 rfl rfl
theorem d179_2 : decode cJ7_copyOfRangeByte_39247 2 = .ok (.invokestatic 343, 3) := by decide +kernel
theorem k179_2 {d : Nat} {l0 l1 l2 l3 l4 : Option PV} {st : List PV} {M : Mem} {Q : Option PV → Mem → Prop} {a0 a1 : Int32} (hl : szL st ≤ 8) : WP (d + 1) 179 2 [l0, l1, l2, l3, l4] (vi a1 :: vi a0 :: st) M Q = WP d 177 0 [some (vi a0), some (vi a1)] [] M (fun v M' => WP (d + 1) 179 5 [l0, l1, l2, l3, l4] (psh v st) M' Q) := w_callS mC_179 d179_2 rfl rfl (Nat.le_of_ble_eq_true rfl) (by decide) rfl hl
theorem d179_5 : decode cJ7_copyOfRangeByte_39247 5 = .ok (.iload_n 2, 1) := by decide +kernel
theorem k179_5 {d : Nat} {x : Int32} {l0 l1 l3 l4 : Option PV} {st : List PV} {M : Mem} {Q : Option PV → Mem → Prop} : WP d 179 5 [l0, l1, some (vi x), l3, l4] (st) M Q = WP d 179 6 [l0, l1, some (vi x), l3, l4] (vi x :: st) M Q := w1 mC_179 d179_5 rfl rfl
theorem d179_6 : decode cJ7_copyOfRangeByte_39247 6 = .ok (.iload_n 1, 1) := by decide +kernel
theorem k179_6 {d : Nat} {x : Int32} {l0 l2 l3 l4 : Option PV} {st : List PV} {M : Mem} {Q : Option PV → Mem → Prop} : WP d 179 6 [l0, some (vi x), l2, l3, l4] (st) M Q = WP d 179 7 [l0, some (vi x), l2, l3, l4] (vi x :: st) M Q := w1 mC_179 d179_6 rfl rfl
theorem d179_7 : decode cJ7_copyOfRangeByte_39247 7 = .ok (.isub, 1) := by decide +kernel
theorem k179_7 {d : Nat} {l0 l1 l2 l3 l4 : Option PV} {st : List PV} {M : Mem} {Q : Option PV → Mem → Prop} {x y : Int32} : WP d 179 7 [l0, l1, l2, l3, l4] (vi y :: vi x :: st) M Q = WP d 179 8 [l0, l1, l2, l3, l4] (vi (x - y) :: st) M Q := w1 mC_179 d179_7 rfl rfl
theorem d179_8 : decode cJ7_copyOfRangeByte_39247 8 = .ok (.istore_n 3, 1) := by decide +kernel
theorem k179_8 {d : Nat} {l0 l1 l2 l3 l4 : Option PV} {st : List PV} {M : Mem} {Q : Option PV → Mem → Prop} {x : Int32} : WP d 179 8 [l0, l1, l2, l3, l4] (vi x :: st) M Q = WP d 179 9 [l0, l1, l2, some (vi x), l4] (st) M Q := w1 mC_179 d179_8 rfl rfl
theorem d179_9 : decode cJ7_copyOfRangeByte_39247 9 = .ok (.iload_n 3, 1) := by decide +kernel
theorem k179_9 {d : Nat} {x : Int32} {l0 l1 l2 l4 : Option PV} {st : List PV} {M : Mem} {Q : Option PV → Mem → Prop} : WP d 179 9 [l0, l1, l2, some (vi x), l4] (st) M Q = WP d 179 10 [l0, l1, l2, some (vi x), l4] (vi x :: st) M Q := w1 mC_179 d179_9 rfl rfl
theorem d179_10 : decode cJ7_copyOfRangeByte_39247 10 = .ok (.newarray .byte, 2) := by decide +kernel
theorem k179_10 {d : Nat} {l0 l1 l2 l3 l4 : Option PV} {st : List PV} {M : Mem} {Q : Option PV → Mem → Prop} {x : Int32} (hx : ¬ x < 0 ∧ ix x ≤ 100000) : WP d 179 10 [l0, l1, l2, l3, l4] (vi x :: st) M Q = WP d 179 12 [l0, l1, l2, l3, l4] (vr (mX M) :: st) (nw M 18 (ix x) (ix x)) Q := w_nwb mC_179 d179_10 hx
theorem d179_12 : decode cJ7_copyOfRangeByte_39247 12 = .ok (.astore 4, 2) := by decide +kernel
theorem k179_12 {d : Nat} {l0 l1 l2 l3 l4 : Option PV} {st : List PV} {M : Mem} {Q : Option PV → Mem → Prop} {x : Nat} : WP d 179 12 [l0, l1, l2, l3, l4] (vr x :: st) M Q = WP d 179 14 [l0, l1, l2, l3, some (vr x)] (st) M Q := w1 mC_179 d179_12 rfl rfl
theorem d179_14 : decode cJ7_copyOfRangeByte_39247 14 = .ok (.aload_n 0, 1) := by decide +kernel
theorem k179_14 {d x : Nat} {l1 l2 l3 l4 : Option PV} {st : List PV} {M : Mem} {Q : Option PV → Mem → Prop} : WP d 179 14 [some (vr x), l1, l2, l3, l4] (st) M Q = WP d 179 15 [some (vr x), l1, l2, l3, l4] (vr x :: st) M Q := w1 mC_179 d179_14 rfl rfl
theorem d179_15 : decode cJ7_copyOfRangeByte_39247 15 = .ok (.iload_n 1, 1) := by decide +kernel
theorem k179_15 {d : Nat} {x : Int32} {l0 l2 l3 l4 : Option PV} {st : List PV} {M : Mem} {Q : Option PV → Mem → Prop} : WP d 179 15 [l0, some (vi x), l2, l3, l4] (st) M Q = WP d 179 16 [l0, some (vi x), l2, l3, l4] (vi x :: st) M Q := w1 mC_179 d179_15 rfl rfl
theorem d179_16 : decode cJ7_copyOfRangeByte_39247 16 = .ok (.aload 4, 2) := by decide +kernel
theorem k179_16 {d x : Nat} {l0 l1 l2 l3 : Option PV} {st : List PV} {M : Mem} {Q : Option PV → Mem → Prop} : WP d 179 16 [l0, l1, l2, l3, some (vr x)] (st) M Q = WP d 179 18 [l0, l1, l2, l3, some (vr x)] (vr x :: st) M Q := w1 mC_179 d179_16 rfl rfl
theorem d179_18 : decode cJ7_copyOfRangeByte_39247 18 = .ok (.iconst 0, 1) := by decide +kernel
theorem k179_18 {d : Nat} {l0 l1 l2 l3 l4 : Option PV} {st : List PV} {M : Mem} {Q : Option PV → Mem → Prop} : WP d 179 18 [l0, l1, l2, l3, l4] (st) M Q = WP d 179 19 [l0, l1, l2, l3, l4] (vi 0 :: st) M Q := w_iconst mC_179 d179_18 (by decide)
theorem d179_19 : decode cJ7_copyOfRangeByte_39247 19 = .ok (.aload_n 0, 1) := by decide +kernel
theorem k179_19 {d x : Nat} {l1 l2 l3 l4 : Option PV} {st : List PV} {M : Mem} {Q : Option PV → Mem → Prop} : WP d 179 19 [some (vr x), l1, l2, l3, l4] (st) M Q = WP d 179 20 [some (vr x), l1, l2, l3, l4] (vr x :: st) M Q := w1 mC_179 d179_19 rfl rfl
theorem d179_20 : decode cJ7_copyOfRangeByte_39247 20 = .ok (.arraylength, 1) := by decide +kernel
theorem k179_20 {d : Nat} {l0 l1 l2 l3 l4 : Option PV} {st : List PV} {M : Mem} {Q : Option PV → Mem → Prop} {r : Nat} (hk : 13 ≤ mK M r ∧ mK M r ≤ 19) : WP d 179 20 [l0, l1, l2, l3, l4] (vr r :: st) M Q = WP d 179 21 [l0, l1, l2, l3, l4] (vi (Int32.ofNat (mN M r)) :: st) M Q := w_alen mC_179 d179_20 hk
theorem d179_21 : decode cJ7_copyOfRangeByte_39247 21 = .ok (.iload_n 1, 1) := by decide +kernel
theorem k179_21 {d : Nat} {x : Int32} {l0 l2 l3 l4 : Option PV} {st : List PV} {M : Mem} {Q : Option PV → Mem → Prop} : WP d 179 21 [l0, some (vi x), l2, l3, l4] (st) M Q = WP d 179 22 [l0, some (vi x), l2, l3, l4] (vi x :: st) M Q := w1 mC_179 d179_21 rfl rfl
theorem d179_22 : decode cJ7_copyOfRangeByte_39247 22 = .ok (.isub, 1) := by decide +kernel
theorem k179_22 {d : Nat} {l0 l1 l2 l3 l4 : Option PV} {st : List PV} {M : Mem} {Q : Option PV → Mem → Prop} {x y : Int32} : WP d 179 22 [l0, l1, l2, l3, l4] (vi y :: vi x :: st) M Q = WP d 179 23 [l0, l1, l2, l3, l4] (vi (x - y) :: st) M Q := w1 mC_179 d179_22 rfl rfl
theorem d179_23 : decode cJ7_copyOfRangeByte_39247 23 = .ok (.iload_n 3, 1) := by decide +kernel
theorem k179_23 {d : Nat} {x : Int32} {l0 l1 l2 l4 : Option PV} {st : List PV} {M : Mem} {Q : Option PV → Mem → Prop} : WP d 179 23 [l0, l1, l2, some (vi x), l4] (st) M Q = WP d 179 24 [l0, l1, l2, some (vi x), l4] (vi x :: st) M Q := w1 mC_179 d179_23 rfl rfl
theorem d179_24 : decode cJ7_copyOfRangeByte_39247 24 = .ok (.invokestatic 304, 3) := by decide +kernel
theorem k179_24 {d : Nat} {l0 l1 l2 l3 l4 : Option PV} {st : List PV} {M : Mem} {Q : Option PV → Mem → Prop} {x y : Int32} (hl : szL st ≤ 8) : WP d 179 24 [l0, l1, l2, l3, l4] (vi y :: vi x :: st) M Q = WP d 179 27 [l0, l1, l2, l3, l4] (vi (if y < x then y else x) :: st) M Q := w_min mC_179 d179_24 rfl rfl rfl hl
theorem d179_27 : decode cJ7_copyOfRangeByte_39247 27 = .ok (.invokestatic 150, 3) := by decide +kernel
theorem k179_27 {d : Nat} {l0 l1 l2 l3 l4 : Option PV} {st : List PV} {M : Mem} {Q : Option PV → Mem → Prop} {a b : Nat} {sp dp q : Int32} (hl : szL st ≤ 8) (h1 : ¬ sp < 0 ∧ ¬ dp < 0 ∧ ¬ q < 0 ∧ ix sp + ix q ≤ mN M b ∧ ix dp + ix q ≤ mN M a ∧ a ≠ 1 ∧ b ≠ 1) (hk : mK M a = 13) (hk2 : mK M b = 13) : WP d 179 27 [l0, l1, l2, l3, l4] (vi q :: vi dp :: vr a :: vi sp :: vr b :: st) M Q = WP d 179 30 [l0, l1, l2, l3, l4] (st) (cI M b (ix sp) a (ix dp) (ix q)) Q := w_copyI mC_179 d179_27 rfl rfl rfl hl h1 hk hk2
theorem k179_27l {d : Nat} {l0 l1 l2 l3 l4 : Option PV} {st : List PV} {M : Mem} {Q : Option PV → Mem → Prop} {a b : Nat} {sp dp q : Int32} (hl : szL st ≤ 8) (h1 : ¬ sp < 0 ∧ ¬ dp < 0 ∧ ¬ q < 0 ∧ ix sp + ix q ≤ mN M b ∧ ix dp + ix q ≤ mN M a ∧ a ≠ 1 ∧ b ≠ 1) (hk : mK M a = 14) (hk2 : mK M b = 14) : WP d 179 27 [l0, l1, l2, l3, l4] (vi q :: vi dp :: vr a :: vi sp :: vr b :: st) M Q = WP d 179 30 [l0, l1, l2, l3, l4] (st) (cJ M b (ix sp) a (ix dp) (ix q)) Q := w_copyJ mC_179 d179_27 rfl rfl rfl hl h1 hk hk2
theorem k179_27b {d : Nat} {l0 l1 l2 l3 l4 : Option PV} {st : List PV} {M : Mem} {Q : Option PV → Mem → Prop} {a b : Nat} {sp dp q : Int32} (hl : szL st ≤ 8) (h1 : ¬ sp < 0 ∧ ¬ dp < 0 ∧ ¬ q < 0 ∧ ix sp + ix q ≤ mN M b ∧ ix dp + ix q ≤ mN M a ∧ a ≠ 1 ∧ b ≠ 1) (hk : mK M a = 18) (hk2 : mK M b = 18 ∨ mK M b = 19) : WP d 179 27 [l0, l1, l2, l3, l4] (vi q :: vi dp :: vr a :: vi sp :: vr b :: st) M Q = WP d 179 30 [l0, l1, l2, l3, l4] (st) (cI M b (ix sp) a (ix dp) (ix q)) Q := w_copyB mC_179 d179_27 rfl rfl rfl hl h1 hk hk2
theorem d179_30 : decode cJ7_copyOfRangeByte_39247 30 = .ok (.aload 4, 2) := by decide +kernel
theorem k179_30 {d x : Nat} {l0 l1 l2 l3 : Option PV} {st : List PV} {M : Mem} {Q : Option PV → Mem → Prop} : WP d 179 30 [l0, l1, l2, l3, some (vr x)] (st) M Q = WP d 179 32 [l0, l1, l2, l3, some (vr x)] (vr x :: st) M Q := w1 mC_179 d179_30 rfl rfl
theorem d179_32 : decode cJ7_copyOfRangeByte_39247 32 = .ok (.areturn, 1) := by decide +kernel
theorem k179_32 {d : Nat} {l0 l1 l2 l3 l4 : Option PV} {M : Mem} {Q : Option PV → Mem → Prop} {r : Nat} (hr : 2 ≤ r) : WP d 179 32 [l0, l1, l2, l3, l4] ([vr r]) M Q = Q (some (vr r)) M := w_areta mC_179 d179_32 rfl hr
theorem d180_0 : decode cJ8_newLength_cabcc 0 = .ok (.iload_n 0, 1) := by decide +kernel
theorem k180_0 {d : Nat} {x : Int32} {l1 l2 l3 : Option PV} {st : List PV} {M : Mem} {Q : Option PV → Mem → Prop} : WP d 180 0 [some (vi x), l1, l2, l3] (st) M Q = WP d 180 1 [some (vi x), l1, l2, l3] (vi x :: st) M Q := w1 mC_180 d180_0 rfl rfl
theorem d180_1 : decode cJ8_newLength_cabcc 1 = .ok (.iload_n 1, 1) := by decide +kernel
theorem k180_1 {d : Nat} {x : Int32} {l0 l2 l3 : Option PV} {st : List PV} {M : Mem} {Q : Option PV → Mem → Prop} : WP d 180 1 [l0, some (vi x), l2, l3] (st) M Q = WP d 180 2 [l0, some (vi x), l2, l3] (vi x :: st) M Q := w1 mC_180 d180_1 rfl rfl
theorem d180_2 : decode cJ8_newLength_cabcc 2 = .ok (.iload_n 2, 1) := by decide +kernel
theorem k180_2 {d : Nat} {x : Int32} {l0 l1 l3 : Option PV} {st : List PV} {M : Mem} {Q : Option PV → Mem → Prop} : WP d 180 2 [l0, l1, some (vi x), l3] (st) M Q = WP d 180 3 [l0, l1, some (vi x), l3] (vi x :: st) M Q := w1 mC_180 d180_2 rfl rfl
theorem d180_3 : decode cJ8_newLength_cabcc 3 = .ok (.invokestatic 194, 3) := by decide +kernel
theorem k180_3 {d : Nat} {l0 l1 l2 l3 : Option PV} {st : List PV} {M : Mem} {Q : Option PV → Mem → Prop} {x y : Int32} (hl : szL st ≤ 8) : WP d 180 3 [l0, l1, l2, l3] (vi y :: vi x :: st) M Q = WP d 180 6 [l0, l1, l2, l3] (vi (if x < y then y else x) :: st) M Q := w_max mC_180 d180_3 rfl rfl rfl hl
theorem d180_6 : decode cJ8_newLength_cabcc 6 = .ok (.iadd, 1) := by decide +kernel
theorem k180_6 {d : Nat} {l0 l1 l2 l3 : Option PV} {st : List PV} {M : Mem} {Q : Option PV → Mem → Prop} {x y : Int32} : WP d 180 6 [l0, l1, l2, l3] (vi y :: vi x :: st) M Q = WP d 180 7 [l0, l1, l2, l3] (vi (x + y) :: st) M Q := w1 mC_180 d180_6 rfl rfl
theorem d180_7 : decode cJ8_newLength_cabcc 7 = .ok (.istore_n 3, 1) := by decide +kernel
theorem k180_7 {d : Nat} {l0 l1 l2 l3 : Option PV} {st : List PV} {M : Mem} {Q : Option PV → Mem → Prop} {x : Int32} : WP d 180 7 [l0, l1, l2, l3] (vi x :: st) M Q = WP d 180 8 [l0, l1, l2, some (vi x)] (st) M Q := w1 mC_180 d180_7 rfl rfl
theorem d180_8 : decode cJ8_newLength_cabcc 8 = .ok (.iconst 0, 1) := by decide +kernel
theorem k180_8 {d : Nat} {l0 l1 l2 l3 : Option PV} {st : List PV} {M : Mem} {Q : Option PV → Mem → Prop} : WP d 180 8 [l0, l1, l2, l3] (st) M Q = WP d 180 9 [l0, l1, l2, l3] (vi 0 :: st) M Q := w_iconst mC_180 d180_8 (by decide)
theorem d180_9 : decode cJ8_newLength_cabcc 9 = .ok (.iload_n 3, 1) := by decide +kernel
theorem k180_9 {d : Nat} {x : Int32} {l0 l1 l2 : Option PV} {st : List PV} {M : Mem} {Q : Option PV → Mem → Prop} : WP d 180 9 [l0, l1, l2, some (vi x)] (st) M Q = WP d 180 10 [l0, l1, l2, some (vi x)] (vi x :: st) M Q := w1 mC_180 d180_9 rfl rfl
theorem d180_10 : decode cJ8_newLength_cabcc 10 = .ok (.if_icmp .ge 11, 3) := by decide +kernel
theorem k180_10 {d : Nat} {l0 l1 l2 l3 : Option PV} {st : List PV} {M : Mem} {Q : Option PV → Mem → Prop} {x y : Int32} : WP d 180 10 [l0, l1, l2, l3] (vi y :: vi x :: st) M Q = (if y ≤ x then WP d 180 21 [l0, l1, l2, l3] (st) M Q else WP d 180 13 [l0, l1, l2, l3] (st) M Q) := w_ic_ge mC_180 d180_10 (by decide)
theorem d180_13 : decode cJ8_newLength_cabcc 13 = .ok (.iload_n 3, 1) := by decide +kernel
theorem k180_13 {d : Nat} {x : Int32} {l0 l1 l2 : Option PV} {st : List PV} {M : Mem} {Q : Option PV → Mem → Prop} : WP d 180 13 [l0, l1, l2, some (vi x)] (st) M Q = WP d 180 14 [l0, l1, l2, some (vi x)] (vi x :: st) M Q := w1 mC_180 d180_13 rfl rfl
theorem d180_14 : decode cJ8_newLength_cabcc 14 = .ok (.ldc 200, 2) := by decide +kernel
theorem k180_14 {d : Nat} {l0 l1 l2 l3 : Option PV} {st : List PV} {M : Mem} {Q : Option PV → Mem → Prop} : WP d 180 14 [l0, l1, l2, l3] (st) M Q = WP d 180 16 [l0, l1, l2, l3] (vi 2147483639 :: st) M Q := w_ldc mC_180 d180_14 rfl
theorem d180_16 : decode cJ8_newLength_cabcc 16 = .ok (.if_icmp .gt 5, 3) := by decide +kernel
theorem k180_16 {d : Nat} {l0 l1 l2 l3 : Option PV} {st : List PV} {M : Mem} {Q : Option PV → Mem → Prop} {x y : Int32} : WP d 180 16 [l0, l1, l2, l3] (vi y :: vi x :: st) M Q = (if y < x then WP d 180 21 [l0, l1, l2, l3] (st) M Q else WP d 180 19 [l0, l1, l2, l3] (st) M Q) := w_ic_gt mC_180 d180_16 (by decide)
theorem d180_19 : decode cJ8_newLength_cabcc 19 = .ok (.iload_n 3, 1) := by decide +kernel
theorem k180_19 {d : Nat} {x : Int32} {l0 l1 l2 : Option PV} {st : List PV} {M : Mem} {Q : Option PV → Mem → Prop} : WP d 180 19 [l0, l1, l2, some (vi x)] (st) M Q = WP d 180 20 [l0, l1, l2, some (vi x)] (vi x :: st) M Q := w1 mC_180 d180_19 rfl rfl
theorem d180_20 : decode cJ8_newLength_cabcc 20 = .ok (.ireturn, 1) := by decide +kernel
theorem k180_20 {d : Nat} {l0 l1 l2 l3 : Option PV} {M : Mem} {Q : Option PV → Mem → Prop} {x : Int32} : WP d 180 20 [l0, l1, l2, l3] ([vi x]) M Q = Q (some (vi x)) M := w_iret mC_180 d180_20 rfl
theorem d180_21 : decode cJ8_newLength_cabcc 21 = .ok (.iload_n 0, 1) := by decide +kernel
theorem k180_21 {d : Nat} {x : Int32} {l1 l2 l3 : Option PV} {st : List PV} {M : Mem} {Q : Option PV → Mem → Prop} : WP d 180 21 [some (vi x), l1, l2, l3] (st) M Q = WP d 180 22 [some (vi x), l1, l2, l3] (vi x :: st) M Q := w1 mC_180 d180_21 rfl rfl
theorem d180_22 : decode cJ8_newLength_cabcc 22 = .ok (.iload_n 1, 1) := by decide +kernel
theorem k180_22 {d : Nat} {x : Int32} {l0 l2 l3 : Option PV} {st : List PV} {M : Mem} {Q : Option PV → Mem → Prop} : WP d 180 22 [l0, some (vi x), l2, l3] (st) M Q = WP d 180 23 [l0, some (vi x), l2, l3] (vi x :: st) M Q := w1 mC_180 d180_22 rfl rfl
theorem d180_26 : decode cJ8_newLength_cabcc 26 = .ok (.ireturn, 1) := by decide +kernel
theorem k180_26 {d : Nat} {l0 l1 l2 l3 : Option PV} {M : Mem} {Q : Option PV → Mem → Prop} {x : Int32} : WP d 180 26 [l0, l1, l2, l3] ([vi x]) M Q = Q (some (vi x)) M := w_iret mC_180 d180_26 rfl
theorem d181_0 : decode cJ3_checkIndex_8e157 0 = .ok (.iload_n 0, 1) := by decide +kernel
theorem k181_0 {d : Nat} {x : Int32} {l1 l2 : Option PV} {st : List PV} {M : Mem} {Q : Option PV → Mem → Prop} : WP d 181 0 [some (vi x), l1, l2] (st) M Q = WP d 181 1 [some (vi x), l1, l2] (vi x :: st) M Q := w1 mC_181 d181_0 rfl rfl
theorem d181_1 : decode cJ3_checkIndex_8e157 1 = .ok (.ifCond .lt 8, 3) := by decide +kernel
theorem k181_1 {d : Nat} {l0 l1 l2 : Option PV} {st : List PV} {M : Mem} {Q : Option PV → Mem → Prop} {x : Int32} : WP d 181 1 [l0, l1, l2] (vi x :: st) M Q = (if x < 0 then WP d 181 9 [l0, l1, l2] (st) M Q else WP d 181 4 [l0, l1, l2] (st) M Q) := w_if_lt mC_181 d181_1 (by decide)
theorem d181_4 : decode cJ3_checkIndex_8e157 4 = .ok (.iload_n 0, 1) := by decide +kernel
theorem k181_4 {d : Nat} {x : Int32} {l1 l2 : Option PV} {st : List PV} {M : Mem} {Q : Option PV → Mem → Prop} : WP d 181 4 [some (vi x), l1, l2] (st) M Q = WP d 181 5 [some (vi x), l1, l2] (vi x :: st) M Q := w1 mC_181 d181_4 rfl rfl
theorem d181_5 : decode cJ3_checkIndex_8e157 5 = .ok (.iload_n 1, 1) := by decide +kernel
theorem k181_5 {d : Nat} {x : Int32} {l0 l2 : Option PV} {st : List PV} {M : Mem} {Q : Option PV → Mem → Prop} : WP d 181 5 [l0, some (vi x), l2] (st) M Q = WP d 181 6 [l0, some (vi x), l2] (vi x :: st) M Q := w1 mC_181 d181_5 rfl rfl
theorem d181_6 : decode cJ3_checkIndex_8e157 6 = .ok (.if_icmp .lt 10, 3) := by decide +kernel
theorem k181_6 {d : Nat} {l0 l1 l2 : Option PV} {st : List PV} {M : Mem} {Q : Option PV → Mem → Prop} {x y : Int32} : WP d 181 6 [l0, l1, l2] (vi y :: vi x :: st) M Q = (if x < y then WP d 181 16 [l0, l1, l2] (st) M Q else WP d 181 9 [l0, l1, l2] (st) M Q) := w_ic_lt mC_181 d181_6 (by decide)
theorem d181_9 : decode cJ3_checkIndex_8e157 9 = .ok (.aload_n 2, 1) := by decide +kernel
theorem k181_9 {d x : Nat} {l0 l1 : Option PV} {st : List PV} {M : Mem} {Q : Option PV → Mem → Prop} : WP d 181 9 [l0, l1, some (vr x)] (st) M Q = WP d 181 10 [l0, l1, some (vr x)] (vr x :: st) M Q := w1 mC_181 d181_9 rfl rfl
theorem d181_10 : decode cJ3_checkIndex_8e157 10 = .ok (.iload_n 0, 1) := by decide +kernel
theorem k181_10 {d : Nat} {x : Int32} {l1 l2 : Option PV} {st : List PV} {M : Mem} {Q : Option PV → Mem → Prop} : WP d 181 10 [some (vi x), l1, l2] (st) M Q = WP d 181 11 [some (vi x), l1, l2] (vi x :: st) M Q := w1 mC_181 d181_10 rfl rfl
theorem d181_11 : decode cJ3_checkIndex_8e157 11 = .ok (.iload_n 1, 1) := by decide +kernel
theorem k181_11 {d : Nat} {x : Int32} {l0 l2 : Option PV} {st : List PV} {M : Mem} {Q : Option PV → Mem → Prop} : WP d 181 11 [l0, some (vi x), l2] (st) M Q = WP d 181 12 [l0, some (vi x), l2] (vi x :: st) M Q := w1 mC_181 d181_11 rfl rfl
theorem d181_16 : decode cJ3_checkIndex_8e157 16 = .ok (.iload_n 0, 1) := by decide +kernel
theorem k181_16 {d : Nat} {x : Int32} {l1 l2 : Option PV} {st : List PV} {M : Mem} {Q : Option PV → Mem → Prop} : WP d 181 16 [some (vi x), l1, l2] (st) M Q = WP d 181 17 [some (vi x), l1, l2] (vi x :: st) M Q := w1 mC_181 d181_16 rfl rfl
theorem d181_17 : decode cJ3_checkIndex_8e157 17 = .ok (.ireturn, 1) := by decide +kernel
theorem k181_17 {d : Nat} {l0 l1 l2 : Option PV} {M : Mem} {Q : Option PV → Mem → Prop} {x : Int32} : WP d 181 17 [l0, l1, l2] ([vi x]) M Q = Q (some (vi x)) M := w_iret mC_181 d181_17 rfl
theorem d246_0 : decode cJ6_compare_7cf53 0 = .ok (.iload_n 0, 1) := by decide +kernel
theorem k246_0 {d : Nat} {x : Int32} {l1 : Option PV} {st : List PV} {M : Mem} {Q : Option PV → Mem → Prop} : WP d 246 0 [some (vi x), l1] (st) M Q = WP d 246 1 [some (vi x), l1] (vi x :: st) M Q := w1 mC_246 d246_0 rfl rfl
theorem d246_1 : decode cJ6_compare_7cf53 1 = .ok (.iload_n 1, 1) := by decide +kernel
theorem k246_1 {d : Nat} {x : Int32} {l0 : Option PV} {st : List PV} {M : Mem} {Q : Option PV → Mem → Prop} : WP d 246 1 [l0, some (vi x)] (st) M Q = WP d 246 2 [l0, some (vi x)] (vi x :: st) M Q := w1 mC_246 d246_1 rfl rfl
theorem d246_2 : decode cJ6_compare_7cf53 2 = .ok (.if_icmp .ge 7, 3) := by decide +kernel
theorem k246_2 {d : Nat} {l0 l1 : Option PV} {st : List PV} {M : Mem} {Q : Option PV → Mem → Prop} {x y : Int32} : WP d 246 2 [l0, l1] (vi y :: vi x :: st) M Q = (if y ≤ x then WP d 246 9 [l0, l1] (st) M Q else WP d 246 5 [l0, l1] (st) M Q) := w_ic_ge mC_246 d246_2 (by decide)
theorem d246_5 : decode cJ6_compare_7cf53 5 = .ok (.iconst (-1), 1) := by decide +kernel
theorem k246_5 {d : Nat} {l0 l1 : Option PV} {st : List PV} {M : Mem} {Q : Option PV → Mem → Prop} : WP d 246 5 [l0, l1] (st) M Q = WP d 246 6 [l0, l1] (vi (-1) :: st) M Q := w_iconst mC_246 d246_5 (by decide)
theorem d246_6 : decode cJ6_compare_7cf53 6 = .ok (.goto 13, 3) := by decide +kernel
theorem k246_6 {d : Nat} {l0 l1 : Option PV} {st : List PV} {M : Mem} {Q : Option PV → Mem → Prop} : WP d 246 6 [l0, l1] (st) M Q = WP d 246 19 [l0, l1] (st) M Q := w_goto mC_246 d246_6 (by decide)
theorem d246_9 : decode cJ6_compare_7cf53 9 = .ok (.iload_n 0, 1) := by decide +kernel
theorem k246_9 {d : Nat} {x : Int32} {l1 : Option PV} {st : List PV} {M : Mem} {Q : Option PV → Mem → Prop} : WP d 246 9 [some (vi x), l1] (st) M Q = WP d 246 10 [some (vi x), l1] (vi x :: st) M Q := w1 mC_246 d246_9 rfl rfl
theorem d246_10 : decode cJ6_compare_7cf53 10 = .ok (.iload_n 1, 1) := by decide +kernel
theorem k246_10 {d : Nat} {x : Int32} {l0 : Option PV} {st : List PV} {M : Mem} {Q : Option PV → Mem → Prop} : WP d 246 10 [l0, some (vi x)] (st) M Q = WP d 246 11 [l0, some (vi x)] (vi x :: st) M Q := w1 mC_246 d246_10 rfl rfl
theorem d246_11 : decode cJ6_compare_7cf53 11 = .ok (.if_icmp .ne 7, 3) := by decide +kernel
theorem k246_11 {d : Nat} {l0 l1 : Option PV} {st : List PV} {M : Mem} {Q : Option PV → Mem → Prop} {x y : Int32} : WP d 246 11 [l0, l1] (vi y :: vi x :: st) M Q = (if x = y then WP d 246 14 [l0, l1] (st) M Q else WP d 246 18 [l0, l1] (st) M Q) := w_ic_ne mC_246 d246_11 (by decide)
theorem d246_14 : decode cJ6_compare_7cf53 14 = .ok (.iconst 0, 1) := by decide +kernel
theorem k246_14 {d : Nat} {l0 l1 : Option PV} {st : List PV} {M : Mem} {Q : Option PV → Mem → Prop} : WP d 246 14 [l0, l1] (st) M Q = WP d 246 15 [l0, l1] (vi 0 :: st) M Q := w_iconst mC_246 d246_14 (by decide)
theorem d246_15 : decode cJ6_compare_7cf53 15 = .ok (.goto 4, 3) := by decide +kernel
theorem k246_15 {d : Nat} {l0 l1 : Option PV} {st : List PV} {M : Mem} {Q : Option PV → Mem → Prop} : WP d 246 15 [l0, l1] (st) M Q = WP d 246 19 [l0, l1] (st) M Q := w_goto mC_246 d246_15 (by decide)
theorem d246_18 : decode cJ6_compare_7cf53 18 = .ok (.iconst 1, 1) := by decide +kernel
theorem k246_18 {d : Nat} {l0 l1 : Option PV} {st : List PV} {M : Mem} {Q : Option PV → Mem → Prop} : WP d 246 18 [l0, l1] (st) M Q = WP d 246 19 [l0, l1] (vi 1 :: st) M Q := w_iconst mC_246 d246_18 (by decide)
theorem d246_19 : decode cJ6_compare_7cf53 19 = .ok (.ireturn, 1) := by decide +kernel
theorem k246_19 {d : Nat} {l0 l1 : Option PV} {M : Mem} {Q : Option PV → Mem → Prop} {x : Int32} : WP d 246 19 [l0, l1] ([vi x]) M Q = Q (some (vi x)) M := w_iret mC_246 d246_19 rfl
theorem d247_0 : decode cJ6_bitCount_0f7a4 0 = .ok (.iload_n 0, 1) := by decide +kernel
theorem k247_0 {d : Nat} {x : Int32} {st : List PV} {M : Mem} {Q : Option PV → Mem → Prop} : WP d 247 0 [some (vi x)] (st) M Q = WP d 247 1 [some (vi x)] (vi x :: st) M Q := w1 mC_247 d247_0 rfl rfl
theorem d247_1 : decode cJ6_bitCount_0f7a4 1 = .ok (.iload_n 0, 1) := by decide +kernel
theorem k247_1 {d : Nat} {x : Int32} {st : List PV} {M : Mem} {Q : Option PV → Mem → Prop} : WP d 247 1 [some (vi x)] (st) M Q = WP d 247 2 [some (vi x)] (vi x :: st) M Q := w1 mC_247 d247_1 rfl rfl
theorem d247_2 : decode cJ6_bitCount_0f7a4 2 = .ok (.iconst 1, 1) := by decide +kernel
theorem k247_2 {d : Nat} {l0 : Option PV} {st : List PV} {M : Mem} {Q : Option PV → Mem → Prop} : WP d 247 2 [l0] (st) M Q = WP d 247 3 [l0] (vi 1 :: st) M Q := w_iconst mC_247 d247_2 (by decide)
theorem d247_3 : decode cJ6_bitCount_0f7a4 3 = .ok (.iushr, 1) := by decide +kernel
theorem k247_3 {d : Nat} {l0 : Option PV} {st : List PV} {M : Mem} {Q : Option PV → Mem → Prop} {x y : Int32} : WP d 247 3 [l0] (vi y :: vi x :: st) M Q = WP d 247 4 [l0] (vi ((x.toUInt32 >>> (y.toUInt32 &&& Int32.toUInt32 31)).toInt32) :: st) M Q := w1 mC_247 d247_3 rfl rfl
theorem d247_4 : decode cJ6_bitCount_0f7a4 4 = .ok (.ldc_w 265, 3) := by decide +kernel
theorem k247_4 {d : Nat} {l0 : Option PV} {st : List PV} {M : Mem} {Q : Option PV → Mem → Prop} : WP d 247 4 [l0] (st) M Q = WP d 247 7 [l0] (vi 1431655765 :: st) M Q := w_ldcw mC_247 d247_4 rfl
theorem d247_7 : decode cJ6_bitCount_0f7a4 7 = .ok (.iand, 1) := by decide +kernel
theorem k247_7 {d : Nat} {l0 : Option PV} {st : List PV} {M : Mem} {Q : Option PV → Mem → Prop} {x y : Int32} : WP d 247 7 [l0] (vi y :: vi x :: st) M Q = WP d 247 8 [l0] (vi (x &&& y) :: st) M Q := w1 mC_247 d247_7 rfl rfl
theorem d247_8 : decode cJ6_bitCount_0f7a4 8 = .ok (.isub, 1) := by decide +kernel
theorem k247_8 {d : Nat} {l0 : Option PV} {st : List PV} {M : Mem} {Q : Option PV → Mem → Prop} {x y : Int32} : WP d 247 8 [l0] (vi y :: vi x :: st) M Q = WP d 247 9 [l0] (vi (x - y) :: st) M Q := w1 mC_247 d247_8 rfl rfl
theorem d247_9 : decode cJ6_bitCount_0f7a4 9 = .ok (.istore_n 0, 1) := by decide +kernel
theorem k247_9 {d : Nat} {l0 : Option PV} {st : List PV} {M : Mem} {Q : Option PV → Mem → Prop} {x : Int32} : WP d 247 9 [l0] (vi x :: st) M Q = WP d 247 10 [some (vi x)] (st) M Q := w1 mC_247 d247_9 rfl rfl
theorem d247_10 : decode cJ6_bitCount_0f7a4 10 = .ok (.iload_n 0, 1) := by decide +kernel
theorem k247_10 {d : Nat} {x : Int32} {st : List PV} {M : Mem} {Q : Option PV → Mem → Prop} : WP d 247 10 [some (vi x)] (st) M Q = WP d 247 11 [some (vi x)] (vi x :: st) M Q := w1 mC_247 d247_10 rfl rfl
theorem d247_11 : decode cJ6_bitCount_0f7a4 11 = .ok (.ldc_w 266, 3) := by decide +kernel
theorem k247_11 {d : Nat} {l0 : Option PV} {st : List PV} {M : Mem} {Q : Option PV → Mem → Prop} : WP d 247 11 [l0] (st) M Q = WP d 247 14 [l0] (vi 858993459 :: st) M Q := w_ldcw mC_247 d247_11 rfl
theorem d247_14 : decode cJ6_bitCount_0f7a4 14 = .ok (.iand, 1) := by decide +kernel
theorem k247_14 {d : Nat} {l0 : Option PV} {st : List PV} {M : Mem} {Q : Option PV → Mem → Prop} {x y : Int32} : WP d 247 14 [l0] (vi y :: vi x :: st) M Q = WP d 247 15 [l0] (vi (x &&& y) :: st) M Q := w1 mC_247 d247_14 rfl rfl
theorem d247_15 : decode cJ6_bitCount_0f7a4 15 = .ok (.iload_n 0, 1) := by decide +kernel
theorem k247_15 {d : Nat} {x : Int32} {st : List PV} {M : Mem} {Q : Option PV → Mem → Prop} : WP d 247 15 [some (vi x)] (st) M Q = WP d 247 16 [some (vi x)] (vi x :: st) M Q := w1 mC_247 d247_15 rfl rfl
theorem d247_16 : decode cJ6_bitCount_0f7a4 16 = .ok (.iconst 2, 1) := by decide +kernel
theorem k247_16 {d : Nat} {l0 : Option PV} {st : List PV} {M : Mem} {Q : Option PV → Mem → Prop} : WP d 247 16 [l0] (st) M Q = WP d 247 17 [l0] (vi 2 :: st) M Q := w_iconst mC_247 d247_16 (by decide)
theorem d247_17 : decode cJ6_bitCount_0f7a4 17 = .ok (.iushr, 1) := by decide +kernel
theorem k247_17 {d : Nat} {l0 : Option PV} {st : List PV} {M : Mem} {Q : Option PV → Mem → Prop} {x y : Int32} : WP d 247 17 [l0] (vi y :: vi x :: st) M Q = WP d 247 18 [l0] (vi ((x.toUInt32 >>> (y.toUInt32 &&& Int32.toUInt32 31)).toInt32) :: st) M Q := w1 mC_247 d247_17 rfl rfl
theorem d247_18 : decode cJ6_bitCount_0f7a4 18 = .ok (.ldc_w 266, 3) := by decide +kernel
theorem k247_18 {d : Nat} {l0 : Option PV} {st : List PV} {M : Mem} {Q : Option PV → Mem → Prop} : WP d 247 18 [l0] (st) M Q = WP d 247 21 [l0] (vi 858993459 :: st) M Q := w_ldcw mC_247 d247_18 rfl
theorem d247_21 : decode cJ6_bitCount_0f7a4 21 = .ok (.iand, 1) := by decide +kernel
theorem k247_21 {d : Nat} {l0 : Option PV} {st : List PV} {M : Mem} {Q : Option PV → Mem → Prop} {x y : Int32} : WP d 247 21 [l0] (vi y :: vi x :: st) M Q = WP d 247 22 [l0] (vi (x &&& y) :: st) M Q := w1 mC_247 d247_21 rfl rfl
theorem d247_22 : decode cJ6_bitCount_0f7a4 22 = .ok (.iadd, 1) := by decide +kernel
theorem k247_22 {d : Nat} {l0 : Option PV} {st : List PV} {M : Mem} {Q : Option PV → Mem → Prop} {x y : Int32} : WP d 247 22 [l0] (vi y :: vi x :: st) M Q = WP d 247 23 [l0] (vi (x + y) :: st) M Q := w1 mC_247 d247_22 rfl rfl
theorem d247_23 : decode cJ6_bitCount_0f7a4 23 = .ok (.istore_n 0, 1) := by decide +kernel
theorem k247_23 {d : Nat} {l0 : Option PV} {st : List PV} {M : Mem} {Q : Option PV → Mem → Prop} {x : Int32} : WP d 247 23 [l0] (vi x :: st) M Q = WP d 247 24 [some (vi x)] (st) M Q := w1 mC_247 d247_23 rfl rfl
theorem d247_24 : decode cJ6_bitCount_0f7a4 24 = .ok (.iload_n 0, 1) := by decide +kernel
theorem k247_24 {d : Nat} {x : Int32} {st : List PV} {M : Mem} {Q : Option PV → Mem → Prop} : WP d 247 24 [some (vi x)] (st) M Q = WP d 247 25 [some (vi x)] (vi x :: st) M Q := w1 mC_247 d247_24 rfl rfl
theorem d247_25 : decode cJ6_bitCount_0f7a4 25 = .ok (.iload_n 0, 1) := by decide +kernel
theorem k247_25 {d : Nat} {x : Int32} {st : List PV} {M : Mem} {Q : Option PV → Mem → Prop} : WP d 247 25 [some (vi x)] (st) M Q = WP d 247 26 [some (vi x)] (vi x :: st) M Q := w1 mC_247 d247_25 rfl rfl
theorem d247_26 : decode cJ6_bitCount_0f7a4 26 = .ok (.iconst 4, 1) := by decide +kernel
theorem k247_26 {d : Nat} {l0 : Option PV} {st : List PV} {M : Mem} {Q : Option PV → Mem → Prop} : WP d 247 26 [l0] (st) M Q = WP d 247 27 [l0] (vi 4 :: st) M Q := w_iconst mC_247 d247_26 (by decide)
theorem d247_27 : decode cJ6_bitCount_0f7a4 27 = .ok (.iushr, 1) := by decide +kernel
theorem k247_27 {d : Nat} {l0 : Option PV} {st : List PV} {M : Mem} {Q : Option PV → Mem → Prop} {x y : Int32} : WP d 247 27 [l0] (vi y :: vi x :: st) M Q = WP d 247 28 [l0] (vi ((x.toUInt32 >>> (y.toUInt32 &&& Int32.toUInt32 31)).toInt32) :: st) M Q := w1 mC_247 d247_27 rfl rfl
theorem d247_28 : decode cJ6_bitCount_0f7a4 28 = .ok (.iadd, 1) := by decide +kernel
theorem k247_28 {d : Nat} {l0 : Option PV} {st : List PV} {M : Mem} {Q : Option PV → Mem → Prop} {x y : Int32} : WP d 247 28 [l0] (vi y :: vi x :: st) M Q = WP d 247 29 [l0] (vi (x + y) :: st) M Q := w1 mC_247 d247_28 rfl rfl
theorem d247_29 : decode cJ6_bitCount_0f7a4 29 = .ok (.ldc_w 267, 3) := by decide +kernel
theorem k247_29 {d : Nat} {l0 : Option PV} {st : List PV} {M : Mem} {Q : Option PV → Mem → Prop} : WP d 247 29 [l0] (st) M Q = WP d 247 32 [l0] (vi 252645135 :: st) M Q := w_ldcw mC_247 d247_29 rfl
theorem d247_32 : decode cJ6_bitCount_0f7a4 32 = .ok (.iand, 1) := by decide +kernel
theorem k247_32 {d : Nat} {l0 : Option PV} {st : List PV} {M : Mem} {Q : Option PV → Mem → Prop} {x y : Int32} : WP d 247 32 [l0] (vi y :: vi x :: st) M Q = WP d 247 33 [l0] (vi (x &&& y) :: st) M Q := w1 mC_247 d247_32 rfl rfl
theorem d247_33 : decode cJ6_bitCount_0f7a4 33 = .ok (.istore_n 0, 1) := by decide +kernel
theorem k247_33 {d : Nat} {l0 : Option PV} {st : List PV} {M : Mem} {Q : Option PV → Mem → Prop} {x : Int32} : WP d 247 33 [l0] (vi x :: st) M Q = WP d 247 34 [some (vi x)] (st) M Q := w1 mC_247 d247_33 rfl rfl
theorem d247_34 : decode cJ6_bitCount_0f7a4 34 = .ok (.iload_n 0, 1) := by decide +kernel
theorem k247_34 {d : Nat} {x : Int32} {st : List PV} {M : Mem} {Q : Option PV → Mem → Prop} : WP d 247 34 [some (vi x)] (st) M Q = WP d 247 35 [some (vi x)] (vi x :: st) M Q := w1 mC_247 d247_34 rfl rfl
theorem d247_35 : decode cJ6_bitCount_0f7a4 35 = .ok (.iload_n 0, 1) := by decide +kernel
theorem k247_35 {d : Nat} {x : Int32} {st : List PV} {M : Mem} {Q : Option PV → Mem → Prop} : WP d 247 35 [some (vi x)] (st) M Q = WP d 247 36 [some (vi x)] (vi x :: st) M Q := w1 mC_247 d247_35 rfl rfl
theorem d247_36 : decode cJ6_bitCount_0f7a4 36 = .ok (.bipush 8, 2) := by decide +kernel
theorem k247_36 {d : Nat} {l0 : Option PV} {st : List PV} {M : Mem} {Q : Option PV → Mem → Prop} : WP d 247 36 [l0] (st) M Q = WP d 247 38 [l0] (vi 8 :: st) M Q := w_bipush mC_247 d247_36 (by decide)
theorem d247_38 : decode cJ6_bitCount_0f7a4 38 = .ok (.iushr, 1) := by decide +kernel
theorem k247_38 {d : Nat} {l0 : Option PV} {st : List PV} {M : Mem} {Q : Option PV → Mem → Prop} {x y : Int32} : WP d 247 38 [l0] (vi y :: vi x :: st) M Q = WP d 247 39 [l0] (vi ((x.toUInt32 >>> (y.toUInt32 &&& Int32.toUInt32 31)).toInt32) :: st) M Q := w1 mC_247 d247_38 rfl rfl
theorem d247_39 : decode cJ6_bitCount_0f7a4 39 = .ok (.iadd, 1) := by decide +kernel
theorem k247_39 {d : Nat} {l0 : Option PV} {st : List PV} {M : Mem} {Q : Option PV → Mem → Prop} {x y : Int32} : WP d 247 39 [l0] (vi y :: vi x :: st) M Q = WP d 247 40 [l0] (vi (x + y) :: st) M Q := w1 mC_247 d247_39 rfl rfl
theorem d247_40 : decode cJ6_bitCount_0f7a4 40 = .ok (.istore_n 0, 1) := by decide +kernel
theorem k247_40 {d : Nat} {l0 : Option PV} {st : List PV} {M : Mem} {Q : Option PV → Mem → Prop} {x : Int32} : WP d 247 40 [l0] (vi x :: st) M Q = WP d 247 41 [some (vi x)] (st) M Q := w1 mC_247 d247_40 rfl rfl
theorem d247_41 : decode cJ6_bitCount_0f7a4 41 = .ok (.iload_n 0, 1) := by decide +kernel
theorem k247_41 {d : Nat} {x : Int32} {st : List PV} {M : Mem} {Q : Option PV → Mem → Prop} : WP d 247 41 [some (vi x)] (st) M Q = WP d 247 42 [some (vi x)] (vi x :: st) M Q := w1 mC_247 d247_41 rfl rfl
theorem d247_42 : decode cJ6_bitCount_0f7a4 42 = .ok (.iload_n 0, 1) := by decide +kernel
theorem k247_42 {d : Nat} {x : Int32} {st : List PV} {M : Mem} {Q : Option PV → Mem → Prop} : WP d 247 42 [some (vi x)] (st) M Q = WP d 247 43 [some (vi x)] (vi x :: st) M Q := w1 mC_247 d247_42 rfl rfl
theorem d247_43 : decode cJ6_bitCount_0f7a4 43 = .ok (.bipush 16, 2) := by decide +kernel
theorem k247_43 {d : Nat} {l0 : Option PV} {st : List PV} {M : Mem} {Q : Option PV → Mem → Prop} : WP d 247 43 [l0] (st) M Q = WP d 247 45 [l0] (vi 16 :: st) M Q := w_bipush mC_247 d247_43 (by decide)
theorem d247_45 : decode cJ6_bitCount_0f7a4 45 = .ok (.iushr, 1) := by decide +kernel
theorem k247_45 {d : Nat} {l0 : Option PV} {st : List PV} {M : Mem} {Q : Option PV → Mem → Prop} {x y : Int32} : WP d 247 45 [l0] (vi y :: vi x :: st) M Q = WP d 247 46 [l0] (vi ((x.toUInt32 >>> (y.toUInt32 &&& Int32.toUInt32 31)).toInt32) :: st) M Q := w1 mC_247 d247_45 rfl rfl
theorem d247_46 : decode cJ6_bitCount_0f7a4 46 = .ok (.iadd, 1) := by decide +kernel
theorem k247_46 {d : Nat} {l0 : Option PV} {st : List PV} {M : Mem} {Q : Option PV → Mem → Prop} {x y : Int32} : WP d 247 46 [l0] (vi y :: vi x :: st) M Q = WP d 247 47 [l0] (vi (x + y) :: st) M Q := w1 mC_247 d247_46 rfl rfl
theorem d247_47 : decode cJ6_bitCount_0f7a4 47 = .ok (.istore_n 0, 1) := by decide +kernel
theorem k247_47 {d : Nat} {l0 : Option PV} {st : List PV} {M : Mem} {Q : Option PV → Mem → Prop} {x : Int32} : WP d 247 47 [l0] (vi x :: st) M Q = WP d 247 48 [some (vi x)] (st) M Q := w1 mC_247 d247_47 rfl rfl
theorem d247_48 : decode cJ6_bitCount_0f7a4 48 = .ok (.iload_n 0, 1) := by decide +kernel
theorem k247_48 {d : Nat} {x : Int32} {st : List PV} {M : Mem} {Q : Option PV → Mem → Prop} : WP d 247 48 [some (vi x)] (st) M Q = WP d 247 49 [some (vi x)] (vi x :: st) M Q := w1 mC_247 d247_48 rfl rfl
theorem d247_49 : decode cJ6_bitCount_0f7a4 49 = .ok (.bipush 63, 2) := by decide +kernel
theorem k247_49 {d : Nat} {l0 : Option PV} {st : List PV} {M : Mem} {Q : Option PV → Mem → Prop} : WP d 247 49 [l0] (st) M Q = WP d 247 51 [l0] (vi 63 :: st) M Q := w_bipush mC_247 d247_49 (by decide)
theorem d247_51 : decode cJ6_bitCount_0f7a4 51 = .ok (.iand, 1) := by decide +kernel
theorem k247_51 {d : Nat} {l0 : Option PV} {st : List PV} {M : Mem} {Q : Option PV → Mem → Prop} {x y : Int32} : WP d 247 51 [l0] (vi y :: vi x :: st) M Q = WP d 247 52 [l0] (vi (x &&& y) :: st) M Q := w1 mC_247 d247_51 rfl rfl
theorem d247_52 : decode cJ6_bitCount_0f7a4 52 = .ok (.ireturn, 1) := by decide +kernel
theorem k247_52 {d : Nat} {l0 : Option PV} {M : Mem} {Q : Option PV → Mem → Prop} {x : Int32} : WP d 247 52 [l0] ([vi x]) M Q = Q (some (vi x)) M := w_iret mC_247 d247_52 rfl
theorem d248_0 : decode cJ7_fill_d0a16 0 = .ok (.iconst 0, 1) := by decide +kernel
theorem k248_0 {d : Nat} {l0 l1 l2 l3 l4 : Option PV} {st : List PV} {M : Mem} {Q : Option PV → Mem → Prop} : WP d 248 0 [l0, l1, l2, l3, l4] (st) M Q = WP d 248 1 [l0, l1, l2, l3, l4] (vi 0 :: st) M Q := w_iconst mC_248 d248_0 (by decide)
theorem d248_1 : decode cJ7_fill_d0a16 1 = .ok (.istore_n 3, 1) := by decide +kernel
theorem k248_1 {d : Nat} {l0 l1 l2 l3 l4 : Option PV} {st : List PV} {M : Mem} {Q : Option PV → Mem → Prop} {x : Int32} : WP d 248 1 [l0, l1, l2, l3, l4] (vi x :: st) M Q = WP d 248 2 [l0, l1, l2, some (vi x), l4] (st) M Q := w1 mC_248 d248_1 rfl rfl
theorem d248_2 : decode cJ7_fill_d0a16 2 = .ok (.aload_n 0, 1) := by decide +kernel
theorem k248_2 {d x : Nat} {l1 l2 l3 l4 : Option PV} {st : List PV} {M : Mem} {Q : Option PV → Mem → Prop} : WP d 248 2 [some (vr x), l1, l2, l3, l4] (st) M Q = WP d 248 3 [some (vr x), l1, l2, l3, l4] (vr x :: st) M Q := w1 mC_248 d248_2 rfl rfl
theorem d248_3 : decode cJ7_fill_d0a16 3 = .ok (.arraylength, 1) := by decide +kernel
theorem k248_3 {d : Nat} {l0 l1 l2 l3 l4 : Option PV} {st : List PV} {M : Mem} {Q : Option PV → Mem → Prop} {r : Nat} (hk : 13 ≤ mK M r ∧ mK M r ≤ 19) : WP d 248 3 [l0, l1, l2, l3, l4] (vr r :: st) M Q = WP d 248 4 [l0, l1, l2, l3, l4] (vi (Int32.ofNat (mN M r)) :: st) M Q := w_alen mC_248 d248_3 hk
theorem d248_4 : decode cJ7_fill_d0a16 4 = .ok (.istore 4, 2) := by decide +kernel
theorem k248_4 {d : Nat} {l0 l1 l2 l3 l4 : Option PV} {st : List PV} {M : Mem} {Q : Option PV → Mem → Prop} {x : Int32} : WP d 248 4 [l0, l1, l2, l3, l4] (vi x :: st) M Q = WP d 248 6 [l0, l1, l2, l3, some (vi x)] (st) M Q := w1 mC_248 d248_4 rfl rfl
theorem d248_6 : decode cJ7_fill_d0a16 6 = .ok (.iload_n 3, 1) := by decide +kernel
theorem k248_6 {d : Nat} {x : Int32} {l0 l1 l2 l4 : Option PV} {st : List PV} {M : Mem} {Q : Option PV → Mem → Prop} : WP d 248 6 [l0, l1, l2, some (vi x), l4] (st) M Q = WP d 248 7 [l0, l1, l2, some (vi x), l4] (vi x :: st) M Q := w1 mC_248 d248_6 rfl rfl
theorem d248_7 : decode cJ7_fill_d0a16 7 = .ok (.iload 4, 2) := by decide +kernel
theorem k248_7 {d : Nat} {x : Int32} {l0 l1 l2 l3 : Option PV} {st : List PV} {M : Mem} {Q : Option PV → Mem → Prop} : WP d 248 7 [l0, l1, l2, l3, some (vi x)] (st) M Q = WP d 248 9 [l0, l1, l2, l3, some (vi x)] (vi x :: st) M Q := w1 mC_248 d248_7 rfl rfl
theorem d248_9 : decode cJ7_fill_d0a16 9 = .ok (.if_icmp .ge 13, 3) := by decide +kernel
theorem k248_9 {d : Nat} {l0 l1 l2 l3 l4 : Option PV} {st : List PV} {M : Mem} {Q : Option PV → Mem → Prop} {x y : Int32} : WP d 248 9 [l0, l1, l2, l3, l4] (vi y :: vi x :: st) M Q = (if y ≤ x then WP d 248 22 [l0, l1, l2, l3, l4] (st) M Q else WP d 248 12 [l0, l1, l2, l3, l4] (st) M Q) := w_ic_ge mC_248 d248_9 (by decide)
theorem d248_12 : decode cJ7_fill_d0a16 12 = .ok (.aload_n 0, 1) := by decide +kernel
theorem k248_12 {d x : Nat} {l1 l2 l3 l4 : Option PV} {st : List PV} {M : Mem} {Q : Option PV → Mem → Prop} : WP d 248 12 [some (vr x), l1, l2, l3, l4] (st) M Q = WP d 248 13 [some (vr x), l1, l2, l3, l4] (vr x :: st) M Q := w1 mC_248 d248_12 rfl rfl
theorem d248_13 : decode cJ7_fill_d0a16 13 = .ok (.iload_n 3, 1) := by decide +kernel
theorem k248_13 {d : Nat} {x : Int32} {l0 l1 l2 l4 : Option PV} {st : List PV} {M : Mem} {Q : Option PV → Mem → Prop} : WP d 248 13 [l0, l1, l2, some (vi x), l4] (st) M Q = WP d 248 14 [l0, l1, l2, some (vi x), l4] (vi x :: st) M Q := w1 mC_248 d248_13 rfl rfl
theorem d248_14 : decode cJ7_fill_d0a16 14 = .ok (.lload_n 1, 1) := by decide +kernel
theorem k248_14 {d : Nat} {x : Int64} {l0 l3 l4 : Option PV} {st : List PV} {M : Mem} {Q : Option PV → Mem → Prop} : WP d 248 14 [l0, some (vl x), none, l3, l4] (st) M Q = WP d 248 15 [l0, some (vl x), none, l3, l4] (vl x :: st) M Q := w1 mC_248 d248_14 rfl rfl
theorem d248_15 : decode cJ7_fill_d0a16 15 = .ok (.lastore, 1) := by decide +kernel
theorem k248_15 {d : Nat} {l0 l1 l2 l3 l4 : Option PV} {st : List PV} {M : Mem} {Q : Option PV → Mem → Prop} {r : Nat} {j : Int32} {x : Int64} (hk : mK M r = 14) (hj : inb j (mN M r)) (h1 : r ≠ 1) : WP d 248 15 [l0, l1, l2, l3, l4] (vl x :: vi j :: vr r :: st) M Q = WP d 248 16 [l0, l1, l2, l3, l4] (st) (sJ M r (ix j) x) Q := w_last mC_248 d248_15 hk hj h1
theorem d248_16 : decode cJ7_fill_d0a16 16 = .ok (.iinc 3 1, 3) := by decide +kernel
theorem k248_16 {d : Nat} {x : Int32} {l0 l1 l2 l4 : Option PV} {st : List PV} {M : Mem} {Q : Option PV → Mem → Prop} : WP d 248 16 [l0, l1, l2, some (vi x), l4] (st) M Q = WP d 248 19 [l0, l1, l2, some (vi (x + 1)), l4] (st) M Q := w_iinc mC_248 d248_16 rfl (by decide) rfl
theorem d248_19 : decode cJ7_fill_d0a16 19 = .ok (.goto (-13), 3) := by decide +kernel
theorem k248_19 {d : Nat} {l0 l1 l2 l3 l4 : Option PV} {st : List PV} {M : Mem} {Q : Option PV → Mem → Prop} : WP d 248 19 [l0, l1, l2, l3, l4] (st) M Q = WP d 248 6 [l0, l1, l2, l3, l4] (st) M Q := w_goto mC_248 d248_19 (by decide)
theorem d248_22 : decode cJ7_fill_d0a16 22 = .ok (.return_, 1) := by decide +kernel
theorem k248_22 {d : Nat} {l0 l1 l2 l3 l4 : Option PV} {M : Mem} {Q : Option PV → Mem → Prop} : WP d 248 22 [l0, l1, l2, l3, l4] ([]) M Q = Q none M := w_vret mC_248 d248_22 rfl
theorem d249_0 : decode cJ7_fill_53178 0 = .ok (.iconst 0, 1) := by decide +kernel
theorem k249_0 {d : Nat} {l0 l1 l2 l3 : Option PV} {st : List PV} {M : Mem} {Q : Option PV → Mem → Prop} : WP d 249 0 [l0, l1, l2, l3] (st) M Q = WP d 249 1 [l0, l1, l2, l3] (vi 0 :: st) M Q := w_iconst mC_249 d249_0 (by decide)
theorem d249_1 : decode cJ7_fill_53178 1 = .ok (.istore_n 2, 1) := by decide +kernel
theorem k249_1 {d : Nat} {l0 l1 l2 l3 : Option PV} {st : List PV} {M : Mem} {Q : Option PV → Mem → Prop} {x : Int32} : WP d 249 1 [l0, l1, l2, l3] (vi x :: st) M Q = WP d 249 2 [l0, l1, some (vi x), l3] (st) M Q := w1 mC_249 d249_1 rfl rfl
theorem d249_2 : decode cJ7_fill_53178 2 = .ok (.aload_n 0, 1) := by decide +kernel
theorem k249_2 {d x : Nat} {l1 l2 l3 : Option PV} {st : List PV} {M : Mem} {Q : Option PV → Mem → Prop} : WP d 249 2 [some (vr x), l1, l2, l3] (st) M Q = WP d 249 3 [some (vr x), l1, l2, l3] (vr x :: st) M Q := w1 mC_249 d249_2 rfl rfl
theorem d249_3 : decode cJ7_fill_53178 3 = .ok (.arraylength, 1) := by decide +kernel
theorem k249_3 {d : Nat} {l0 l1 l2 l3 : Option PV} {st : List PV} {M : Mem} {Q : Option PV → Mem → Prop} {r : Nat} (hk : 13 ≤ mK M r ∧ mK M r ≤ 19) : WP d 249 3 [l0, l1, l2, l3] (vr r :: st) M Q = WP d 249 4 [l0, l1, l2, l3] (vi (Int32.ofNat (mN M r)) :: st) M Q := w_alen mC_249 d249_3 hk
theorem d249_4 : decode cJ7_fill_53178 4 = .ok (.istore_n 3, 1) := by decide +kernel
theorem k249_4 {d : Nat} {l0 l1 l2 l3 : Option PV} {st : List PV} {M : Mem} {Q : Option PV → Mem → Prop} {x : Int32} : WP d 249 4 [l0, l1, l2, l3] (vi x :: st) M Q = WP d 249 5 [l0, l1, l2, some (vi x)] (st) M Q := w1 mC_249 d249_4 rfl rfl
theorem d249_5 : decode cJ7_fill_53178 5 = .ok (.iload_n 2, 1) := by decide +kernel
theorem k249_5 {d : Nat} {x : Int32} {l0 l1 l3 : Option PV} {st : List PV} {M : Mem} {Q : Option PV → Mem → Prop} : WP d 249 5 [l0, l1, some (vi x), l3] (st) M Q = WP d 249 6 [l0, l1, some (vi x), l3] (vi x :: st) M Q := w1 mC_249 d249_5 rfl rfl
theorem d249_6 : decode cJ7_fill_53178 6 = .ok (.iload_n 3, 1) := by decide +kernel
theorem k249_6 {d : Nat} {x : Int32} {l0 l1 l2 : Option PV} {st : List PV} {M : Mem} {Q : Option PV → Mem → Prop} : WP d 249 6 [l0, l1, l2, some (vi x)] (st) M Q = WP d 249 7 [l0, l1, l2, some (vi x)] (vi x :: st) M Q := w1 mC_249 d249_6 rfl rfl
theorem d249_7 : decode cJ7_fill_53178 7 = .ok (.if_icmp .ge 13, 3) := by decide +kernel
theorem k249_7 {d : Nat} {l0 l1 l2 l3 : Option PV} {st : List PV} {M : Mem} {Q : Option PV → Mem → Prop} {x y : Int32} : WP d 249 7 [l0, l1, l2, l3] (vi y :: vi x :: st) M Q = (if y ≤ x then WP d 249 20 [l0, l1, l2, l3] (st) M Q else WP d 249 10 [l0, l1, l2, l3] (st) M Q) := w_ic_ge mC_249 d249_7 (by decide)
theorem d249_10 : decode cJ7_fill_53178 10 = .ok (.aload_n 0, 1) := by decide +kernel
theorem k249_10 {d x : Nat} {l1 l2 l3 : Option PV} {st : List PV} {M : Mem} {Q : Option PV → Mem → Prop} : WP d 249 10 [some (vr x), l1, l2, l3] (st) M Q = WP d 249 11 [some (vr x), l1, l2, l3] (vr x :: st) M Q := w1 mC_249 d249_10 rfl rfl
theorem d249_11 : decode cJ7_fill_53178 11 = .ok (.iload_n 2, 1) := by decide +kernel
theorem k249_11 {d : Nat} {x : Int32} {l0 l1 l3 : Option PV} {st : List PV} {M : Mem} {Q : Option PV → Mem → Prop} : WP d 249 11 [l0, l1, some (vi x), l3] (st) M Q = WP d 249 12 [l0, l1, some (vi x), l3] (vi x :: st) M Q := w1 mC_249 d249_11 rfl rfl
theorem d249_12 : decode cJ7_fill_53178 12 = .ok (.iload_n 1, 1) := by decide +kernel
theorem k249_12 {d : Nat} {x : Int32} {l0 l2 l3 : Option PV} {st : List PV} {M : Mem} {Q : Option PV → Mem → Prop} : WP d 249 12 [l0, some (vi x), l2, l3] (st) M Q = WP d 249 13 [l0, some (vi x), l2, l3] (vi x :: st) M Q := w1 mC_249 d249_12 rfl rfl
theorem d249_13 : decode cJ7_fill_53178 13 = .ok (.iastore, 1) := by decide +kernel
theorem k249_13 {d : Nat} {l0 l1 l2 l3 : Option PV} {st : List PV} {M : Mem} {Q : Option PV → Mem → Prop} {r : Nat} {j x : Int32} (hk : mK M r = 13) (hj : inb j (mN M r)) (h1 : r ≠ 1) : WP d 249 13 [l0, l1, l2, l3] (vi x :: vi j :: vr r :: st) M Q = WP d 249 14 [l0, l1, l2, l3] (st) (sI M r (ix j) x) Q := w_iast mC_249 d249_13 hk hj h1
theorem d249_14 : decode cJ7_fill_53178 14 = .ok (.iinc 2 1, 3) := by decide +kernel
theorem k249_14 {d : Nat} {x : Int32} {l0 l1 l3 : Option PV} {st : List PV} {M : Mem} {Q : Option PV → Mem → Prop} : WP d 249 14 [l0, l1, some (vi x), l3] (st) M Q = WP d 249 17 [l0, l1, some (vi (x + 1)), l3] (st) M Q := w_iinc mC_249 d249_14 rfl (by decide) rfl
theorem d249_17 : decode cJ7_fill_53178 17 = .ok (.goto (-12), 3) := by decide +kernel
theorem k249_17 {d : Nat} {l0 l1 l2 l3 : Option PV} {st : List PV} {M : Mem} {Q : Option PV → Mem → Prop} : WP d 249 17 [l0, l1, l2, l3] (st) M Q = WP d 249 5 [l0, l1, l2, l3] (st) M Q := w_goto mC_249 d249_17 (by decide)
theorem d249_20 : decode cJ7_fill_53178 20 = .ok (.return_, 1) := by decide +kernel
theorem k249_20 {d : Nat} {l0 l1 l2 l3 : Option PV} {M : Mem} {Q : Option PV → Mem → Prop} : WP d 249 20 [l0, l1, l2, l3] ([]) M Q = Q none M := w_vret mC_249 d249_20 rfl
