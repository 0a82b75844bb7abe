/-! step rows, by program (wip/whole/gen_rows.py) -/
theorem d144_0 : decode cX12_init 0 = .ok (.aload_n 0, 1) := by decide +kernel
theorem k144_0 {d x : Nat} {l1 : Option PV} {st : List PV} {M : Mem} {Q : Option PV → Mem → Prop} : WP d 144 0 [some (vr x), l1] (st) M Q = WP d 144 1 [some (vr x), l1] (vr x :: st) M Q := w1 mC_144 d144_0 rfl rfl
theorem d144_1 : decode cX12_init 1 = .ok (.invokespecial 3, 3) := by decide +kernel
theorem k144_1 {d : Nat} {l0 l1 : Option PV} {st : List PV} {M : Mem} {Q : Option PV → Mem → Prop} {r : Nat} (hl : szL st ≤ 8) (hk : mK M r < 13) : WP d 144 1 [l0, l1] (vr r :: st) M Q = WP d 144 4 [l0, l1] (st) M Q := w_oi mC_144 d144_1 rfl rfl rfl rfl hl hk
theorem d144_4 : decode cX12_init 4 = .ok (.aload_n 0, 1) := by decide +kernel
theorem k144_4 {d x : Nat} {l1 : Option PV} {st : List PV} {M : Mem} {Q : Option PV → Mem → Prop} : WP d 144 4 [some (vr x), l1] (st) M Q = WP d 144 5 [some (vr x), l1] (vr x :: st) M Q := w1 mC_144 d144_4 rfl rfl
theorem d144_5 : decode cX12_init 5 = .ok (.bipush 48, 2) := by decide +kernel
theorem k144_5 {d : Nat} {l0 l1 : Option PV} {st : List PV} {M : Mem} {Q : Option PV → Mem → Prop} : WP d 144 5 [l0, l1] (st) M Q = WP d 144 7 [l0, l1] (vi 48 :: st) M Q := w_bipush mC_144 d144_5 (by decide)
theorem d144_7 : decode cX12_init 7 = .ok (.newarray .int, 2) := by decide +kernel
theorem k144_7 {d : Nat} {l0 l1 : Option PV} {st : List PV} {M : Mem} {Q : Option PV → Mem → Prop} {x : Int32} (hx : ¬ x < 0 ∧ ix x ≤ 100000) : WP d 144 7 [l0, l1] (vi x :: st) M Q = WP d 144 9 [l0, l1] (vr (mX M) :: st) (nw M 13 (ix x) (ix x)) Q := w_nwi mC_144 d144_7 hx
theorem d144_9 : decode cX12_init 9 = .ok (.putfield 9, 3) := by decide +kernel
theorem k144_9 {d : Nat} {l0 l1 : Option PV} {st : List PV} {M : Mem} {Q : Option PV → Mem → Prop} {r q : Nat} (hk : mK M r = 12) : WP d 144 9 [l0, l1] (vr q :: vr r :: st) M Q = WP d 144 12 [l0, l1] (st) (sR M r 2 q) Q := w_putr mC_144 d144_9 fE_12_9 (by decide +kernel) (by rw [hk]; rfl)
theorem d144_12 : decode cX12_init 12 = .ok (.aload_n 0, 1) := by decide +kernel
theorem k144_12 {d x : Nat} {l1 : Option PV} {st : List PV} {M : Mem} {Q : Option PV → Mem → Prop} : WP d 144 12 [some (vr x), l1] (st) M Q = WP d 144 13 [some (vr x), l1] (vr x :: st) M Q := w1 mC_144 d144_12 rfl rfl
theorem d144_13 : decode cX12_init 13 = .ok (.iconst 2, 1) := by decide +kernel
theorem k144_13 {d : Nat} {l0 l1 : Option PV} {st : List PV} {M : Mem} {Q : Option PV → Mem → Prop} : WP d 144 13 [l0, l1] (st) M Q = WP d 144 14 [l0, l1] (vi 2 :: st) M Q := w_iconst mC_144 d144_13 (by decide)
theorem d144_14 : decode cX12_init 14 = .ok (.newarray .int, 2) := by decide +kernel
theorem k144_14 {d : Nat} {l0 l1 : Option PV} {st : List PV} {M : Mem} {Q : Option PV → Mem → Prop} {x : Int32} (hx : ¬ x < 0 ∧ ix x ≤ 100000) : WP d 144 14 [l0, l1] (vi x :: st) M Q = WP d 144 16 [l0, l1] (vr (mX M) :: st) (nw M 13 (ix x) (ix x)) Q := w_nwi mC_144 d144_14 hx
theorem d144_16 : decode cX12_init 16 = .ok (.putfield 15, 3) := by decide +kernel
theorem k144_16 {d : Nat} {l0 l1 : Option PV} {st : List PV} {M : Mem} {Q : Option PV → Mem → Prop} {r q : Nat} (hk : mK M r = 12) : WP d 144 16 [l0, l1] (vr q :: vr r :: st) M Q = WP d 144 19 [l0, l1] (st) (sR M r 3 q) Q := w_putr mC_144 d144_16 fE_12_15 (by decide +kernel) (by rw [hk]; rfl)
theorem d144_19 : decode cX12_init 19 = .ok (.aload_n 0, 1) := by decide +kernel
theorem k144_19 {d x : Nat} {l1 : Option PV} {st : List PV} {M : Mem} {Q : Option PV → Mem → Prop} : WP d 144 19 [some (vr x), l1] (st) M Q = WP d 144 20 [some (vr x), l1] (vr x :: st) M Q := w1 mC_144 d144_19 rfl rfl
theorem d144_20 : decode cX12_init 20 = .ok (.bipush 120, 2) := by decide +kernel
theorem k144_20 {d : Nat} {l0 l1 : Option PV} {st : List PV} {M : Mem} {Q : Option PV → Mem → Prop} : WP d 144 20 [l0, l1] (st) M Q = WP d 144 22 [l0, l1] (vi 120 :: st) M Q := w_bipush mC_144 d144_20 (by decide)
theorem d144_22 : decode cX12_init 22 = .ok (.newarray .int, 2) := by decide +kernel
theorem k144_22 {d : Nat} {l0 l1 : Option PV} {st : List PV} {M : Mem} {Q : Option PV → Mem → Prop} {x : Int32} (hx : ¬ x < 0 ∧ ix x ≤ 100000) : WP d 144 22 [l0, l1] (vi x :: st) M Q = WP d 144 24 [l0, l1] (vr (mX M) :: st) (nw M 13 (ix x) (ix x)) Q := w_nwi mC_144 d144_22 hx
theorem d144_24 : decode cX12_init 24 = .ok (.putfield 18, 3) := by decide +kernel
theorem k144_24 {d : Nat} {l0 l1 : Option PV} {st : List PV} {M : Mem} {Q : Option PV → Mem → Prop} {r q : Nat} (hk : mK M r = 12) : WP d 144 24 [l0, l1] (vr q :: vr r :: st) M Q = WP d 144 27 [l0, l1] (st) (sR M r 5 q) Q := w_putr mC_144 d144_24 fE_12_18 (by decide +kernel) (by rw [hk]; rfl)
theorem d144_27 : decode cX12_init 27 = .ok (.aload_n 0, 1) := by decide +kernel
theorem k144_27 {d x : Nat} {l1 : Option PV} {st : List PV} {M : Mem} {Q : Option PV → Mem → Prop} : WP d 144 27 [some (vr x), l1] (st) M Q = WP d 144 28 [some (vr x), l1] (vr x :: st) M Q := w1 mC_144 d144_27 rfl rfl
theorem d144_28 : decode cX12_init 28 = .ok (.bipush 60, 2) := by decide +kernel
theorem k144_28 {d : Nat} {l0 l1 : Option PV} {st : List PV} {M : Mem} {Q : Option PV → Mem → Prop} : WP d 144 28 [l0, l1] (st) M Q = WP d 144 30 [l0, l1] (vi 60 :: st) M Q := w_bipush mC_144 d144_28 (by decide)
theorem d144_30 : decode cX12_init 30 = .ok (.newarray .int, 2) := by decide +kernel
theorem k144_30 {d : Nat} {l0 l1 : Option PV} {st : List PV} {M : Mem} {Q : Option PV → Mem → Prop} {x : Int32} (hx : ¬ x < 0 ∧ ix x ≤ 100000) : WP d 144 30 [l0, l1] (vi x :: st) M Q = WP d 144 32 [l0, l1] (vr (mX M) :: st) (nw M 13 (ix x) (ix x)) Q := w_nwi mC_144 d144_30 hx
theorem d144_32 : decode cX12_init 32 = .ok (.putfield 21, 3) := by decide +kernel
theorem k144_32 {d : Nat} {l0 l1 : Option PV} {st : List PV} {M : Mem} {Q : Option PV → Mem → Prop} {r q : Nat} (hk : mK M r = 12) : WP d 144 32 [l0, l1] (vr q :: vr r :: st) M Q = WP d 144 35 [l0, l1] (st) (sR M r 8 q) Q := w_putr mC_144 d144_32 fE_12_21 (by decide +kernel) (by rw [hk]; rfl)
theorem d144_35 : decode cX12_init 35 = .ok (.aload_n 0, 1) := by decide +kernel
theorem k144_35 {d x : Nat} {l1 : Option PV} {st : List PV} {M : Mem} {Q : Option PV → Mem → Prop} : WP d 144 35 [some (vr x), l1] (st) M Q = WP d 144 36 [some (vr x), l1] (vr x :: st) M Q := w1 mC_144 d144_35 rfl rfl
theorem d144_36 : decode cX12_init 36 = .ok (.bipush 60, 2) := by decide +kernel
theorem k144_36 {d : Nat} {l0 l1 : Option PV} {st : List PV} {M : Mem} {Q : Option PV → Mem → Prop} : WP d 144 36 [l0, l1] (st) M Q = WP d 144 38 [l0, l1] (vi 60 :: st) M Q := w_bipush mC_144 d144_36 (by decide)
theorem d144_38 : decode cX12_init 38 = .ok (.newarray .int, 2) := by decide +kernel
theorem k144_38 {d : Nat} {l0 l1 : Option PV} {st : List PV} {M : Mem} {Q : Option PV → Mem → Prop} {x : Int32} (hx : ¬ x < 0 ∧ ix x ≤ 100000) : WP d 144 38 [l0, l1] (vi x :: st) M Q = WP d 144 40 [l0, l1] (vr (mX M) :: st) (nw M 13 (ix x) (ix x)) Q := w_nwi mC_144 d144_38 hx
theorem d144_40 : decode cX12_init 40 = .ok (.putfield 24, 3) := by decide +kernel
theorem k144_40 {d : Nat} {l0 l1 : Option PV} {st : List PV} {M : Mem} {Q : Option PV → Mem → Prop} {r q : Nat} (hk : mK M r = 12) : WP d 144 40 [l0, l1] (vr q :: vr r :: st) M Q = WP d 144 43 [l0, l1] (st) (sR M r 9 q) Q := w_putr mC_144 d144_40 fE_12_24 (by decide +kernel) (by rw [hk]; rfl)
theorem d144_43 : decode cX12_init 43 = .ok (.aload_n 0, 1) := by decide +kernel
theorem k144_43 {d x : Nat} {l1 : Option PV} {st : List PV} {M : Mem} {Q : Option PV → Mem → Prop} : WP d 144 43 [some (vr x), l1] (st) M Q = WP d 144 44 [some (vr x), l1] (vr x :: st) M Q := w1 mC_144 d144_43 rfl rfl
theorem d144_44 : decode cX12_init 44 = .ok (.bipush 60, 2) := by decide +kernel
theorem k144_44 {d : Nat} {l0 l1 : Option PV} {st : List PV} {M : Mem} {Q : Option PV → Mem → Prop} : WP d 144 44 [l0, l1] (st) M Q = WP d 144 46 [l0, l1] (vi 60 :: st) M Q := w_bipush mC_144 d144_44 (by decide)
theorem d144_46 : decode cX12_init 46 = .ok (.newarray .int, 2) := by decide +kernel
theorem k144_46 {d : Nat} {l0 l1 : Option PV} {st : List PV} {M : Mem} {Q : Option PV → Mem → Prop} {x : Int32} (hx : ¬ x < 0 ∧ ix x ≤ 100000) : WP d 144 46 [l0, l1] (vi x :: st) M Q = WP d 144 48 [l0, l1] (vr (mX M) :: st) (nw M 13 (ix x) (ix x)) Q := w_nwi mC_144 d144_46 hx
theorem d144_48 : decode cX12_init 48 = .ok (.putfield 27, 3) := by decide +kernel
theorem k144_48 {d : Nat} {l0 l1 : Option PV} {st : List PV} {M : Mem} {Q : Option PV → Mem → Prop} {r q : Nat} (hk : mK M r = 12) : WP d 144 48 [l0, l1] (vr q :: vr r :: st) M Q = WP d 144 51 [l0, l1] (st) (sR M r 10 q) Q := w_putr mC_144 d144_48 fE_12_27 (by decide +kernel) (by rw [hk]; rfl)
theorem d144_51 : decode cX12_init 51 = .ok (.aload_n 0, 1) := by decide +kernel
theorem k144_51 {d x : Nat} {l1 : Option PV} {st : List PV} {M : Mem} {Q : Option PV → Mem → Prop} : WP d 144 51 [some (vr x), l1] (st) M Q = WP d 144 52 [some (vr x), l1] (vr x :: st) M Q := w1 mC_144 d144_51 rfl rfl
theorem d144_52 : decode cX12_init 52 = .ok (.sipush 200, 3) := by decide +kernel
theorem k144_52 {d : Nat} {l0 l1 : Option PV} {st : List PV} {M : Mem} {Q : Option PV → Mem → Prop} : WP d 144 52 [l0, l1] (st) M Q = WP d 144 55 [l0, l1] (vi 200 :: st) M Q := w_sipush mC_144 d144_52 (by decide)
theorem d144_55 : decode cX12_init 55 = .ok (.newarray .int, 2) := by decide +kernel
theorem k144_55 {d : Nat} {l0 l1 : Option PV} {st : List PV} {M : Mem} {Q : Option PV → Mem → Prop} {x : Int32} (hx : ¬ x < 0 ∧ ix x ≤ 100000) : WP d 144 55 [l0, l1] (vi x :: st) M Q = WP d 144 57 [l0, l1] (vr (mX M) :: st) (nw M 13 (ix x) (ix x)) Q := w_nwi mC_144 d144_55 hx
theorem d144_57 : decode cX12_init 57 = .ok (.putfield 30, 3) := by decide +kernel
theorem k144_57 {d : Nat} {l0 l1 : Option PV} {st : List PV} {M : Mem} {Q : Option PV → Mem → Prop} {r q : Nat} (hk : mK M r = 12) : WP d 144 57 [l0, l1] (vr q :: vr r :: st) M Q = WP d 144 60 [l0, l1] (st) (sR M r 11 q) Q := w_putr mC_144 d144_57 fE_12_30 (by decide +kernel) (by rw [hk]; rfl)
theorem d144_60 : decode cX12_init 60 = .ok (.aload_n 0, 1) := by decide +kernel
theorem k144_60 {d x : Nat} {l1 : Option PV} {st : List PV} {M : Mem} {Q : Option PV → Mem → Prop} : WP d 144 60 [some (vr x), l1] (st) M Q = WP d 144 61 [some (vr x), l1] (vr x :: st) M Q := w1 mC_144 d144_60 rfl rfl
theorem d144_61 : decode cX12_init 61 = .ok (.bipush 61, 2) := by decide +kernel
theorem k144_61 {d : Nat} {l0 l1 : Option PV} {st : List PV} {M : Mem} {Q : Option PV → Mem → Prop} : WP d 144 61 [l0, l1] (st) M Q = WP d 144 63 [l0, l1] (vi 61 :: st) M Q := w_bipush mC_144 d144_61 (by decide)
theorem d144_63 : decode cX12_init 63 = .ok (.newarray .int, 2) := by decide +kernel
theorem k144_63 {d : Nat} {l0 l1 : Option PV} {st : List PV} {M : Mem} {Q : Option PV → Mem → Prop} {x : Int32} (hx : ¬ x < 0 ∧ ix x ≤ 100000) : WP d 144 63 [l0, l1] (vi x :: st) M Q = WP d 144 65 [l0, l1] (vr (mX M) :: st) (nw M 13 (ix x) (ix x)) Q := w_nwi mC_144 d144_63 hx
theorem d144_65 : decode cX12_init 65 = .ok (.putfield 33, 3) := by decide +kernel
theorem k144_65 {d : Nat} {l0 l1 : Option PV} {st : List PV} {M : Mem} {Q : Option PV → Mem → Prop} {r q : Nat} (hk : mK M r = 12) : WP d 144 65 [l0, l1] (vr q :: vr r :: st) M Q = WP d 144 68 [l0, l1] (st) (sR M r 16 q) Q := w_putr mC_144 d144_65 fE_12_33 (by decide +kernel) (by rw [hk]; rfl)
theorem d144_68 : decode cX12_init 68 = .ok (.aload_n 0, 1) := by decide +kernel
theorem k144_68 {d x : Nat} {l1 : Option PV} {st : List PV} {M : Mem} {Q : Option PV → Mem → Prop} : WP d 144 68 [some (vr x), l1] (st) M Q = WP d 144 69 [some (vr x), l1] (vr x :: st) M Q := w1 mC_144 d144_68 rfl rfl
theorem d144_69 : decode cX12_init 69 = .ok (.bipush 61, 2) := by decide +kernel
theorem k144_69 {d : Nat} {l0 l1 : Option PV} {st : List PV} {M : Mem} {Q : Option PV → Mem → Prop} : WP d 144 69 [l0, l1] (st) M Q = WP d 144 71 [l0, l1] (vi 61 :: st) M Q := w_bipush mC_144 d144_69 (by decide)
theorem d144_71 : decode cX12_init 71 = .ok (.newarray .int, 2) := by decide +kernel
theorem k144_71 {d : Nat} {l0 l1 : Option PV} {st : List PV} {M : Mem} {Q : Option PV → Mem → Prop} {x : Int32} (hx : ¬ x < 0 ∧ ix x ≤ 100000) : WP d 144 71 [l0, l1] (vi x :: st) M Q = WP d 144 73 [l0, l1] (vr (mX M) :: st) (nw M 13 (ix x) (ix x)) Q := w_nwi mC_144 d144_71 hx
theorem d144_73 : decode cX12_init 73 = .ok (.putfield 36, 3) := by decide +kernel
theorem k144_73 {d : Nat} {l0 l1 : Option PV} {st : List PV} {M : Mem} {Q : Option PV → Mem → Prop} {r q : Nat} (hk : mK M r = 12) : WP d 144 73 [l0, l1] (vr q :: vr r :: st) M Q = WP d 144 76 [l0, l1] (st) (sR M r 17 q) Q := w_putr mC_144 d144_73 fE_12_36 (by decide +kernel) (by rw [hk]; rfl)
theorem d144_76 : decode cX12_init 76 = .ok (.aload_n 0, 1) := by decide +kernel
theorem k144_76 {d x : Nat} {l1 : Option PV} {st : List PV} {M : Mem} {Q : Option PV → Mem → Prop} : WP d 144 76 [some (vr x), l1] (st) M Q = WP d 144 77 [some (vr x), l1] (vr x :: st) M Q := w1 mC_144 d144_76 rfl rfl
theorem d144_77 : decode cX12_init 77 = .ok (.bipush 61, 2) := by decide +kernel
theorem k144_77 {d : Nat} {l0 l1 : Option PV} {st : List PV} {M : Mem} {Q : Option PV → Mem → Prop} : WP d 144 77 [l0, l1] (st) M Q = WP d 144 79 [l0, l1] (vi 61 :: st) M Q := w_bipush mC_144 d144_77 (by decide)
theorem d144_79 : decode cX12_init 79 = .ok (.newarray .int, 2) := by decide +kernel
theorem k144_79 {d : Nat} {l0 l1 : Option PV} {st : List PV} {M : Mem} {Q : Option PV → Mem → Prop} {x : Int32} (hx : ¬ x < 0 ∧ ix x ≤ 100000) : WP d 144 79 [l0, l1] (vi x :: st) M Q = WP d 144 81 [l0, l1] (vr (mX M) :: st) (nw M 13 (ix x) (ix x)) Q := w_nwi mC_144 d144_79 hx
theorem d144_81 : decode cX12_init 81 = .ok (.putfield 39, 3) := by decide +kernel
theorem k144_81 {d : Nat} {l0 l1 : Option PV} {st : List PV} {M : Mem} {Q : Option PV → Mem → Prop} {r q : Nat} (hk : mK M r = 12) : WP d 144 81 [l0, l1] (vr q :: vr r :: st) M Q = WP d 144 84 [l0, l1] (st) (sR M r 18 q) Q := w_putr mC_144 d144_81 fE_12_39 (by decide +kernel) (by rw [hk]; rfl)
theorem d144_84 : decode cX12_init 84 = .ok (.aload_n 0, 1) := by decide +kernel
theorem k144_84 {d x : Nat} {l1 : Option PV} {st : List PV} {M : Mem} {Q : Option PV → Mem → Prop} : WP d 144 84 [some (vr x), l1] (st) M Q = WP d 144 85 [some (vr x), l1] (vr x :: st) M Q := w1 mC_144 d144_84 rfl rfl
theorem d144_85 : decode cX12_init 85 = .ok (.sipush 200, 3) := by decide +kernel
theorem k144_85 {d : Nat} {l0 l1 : Option PV} {st : List PV} {M : Mem} {Q : Option PV → Mem → Prop} : WP d 144 85 [l0, l1] (st) M Q = WP d 144 88 [l0, l1] (vi 200 :: st) M Q := w_sipush mC_144 d144_85 (by decide)
theorem d144_88 : decode cX12_init 88 = .ok (.newarray .int, 2) := by decide +kernel
theorem k144_88 {d : Nat} {l0 l1 : Option PV} {st : List PV} {M : Mem} {Q : Option PV → Mem → Prop} {x : Int32} (hx : ¬ x < 0 ∧ ix x ≤ 100000) : WP d 144 88 [l0, l1] (vi x :: st) M Q = WP d 144 90 [l0, l1] (vr (mX M) :: st) (nw M 13 (ix x) (ix x)) Q := w_nwi mC_144 d144_88 hx
theorem d144_90 : decode cX12_init 90 = .ok (.putfield 42, 3) := by decide +kernel
theorem k144_90 {d : Nat} {l0 l1 : Option PV} {st : List PV} {M : Mem} {Q : Option PV → Mem → Prop} {r q : Nat} (hk : mK M r = 12) : WP d 144 90 [l0, l1] (vr q :: vr r :: st) M Q = WP d 144 93 [l0, l1] (st) (sR M r 19 q) Q := w_putr mC_144 d144_90 fE_12_42 (by decide +kernel) (by rw [hk]; rfl)
theorem d144_93 : decode cX12_init 93 = .ok (.aload_n 0, 1) := by decide +kernel
theorem k144_93 {d x : Nat} {l1 : Option PV} {st : List PV} {M : Mem} {Q : Option PV → Mem → Prop} : WP d 144 93 [some (vr x), l1] (st) M Q = WP d 144 94 [some (vr x), l1] (vr x :: st) M Q := w1 mC_144 d144_93 rfl rfl
theorem d144_94 : decode cX12_init 94 = .ok (.sipush 200, 3) := by decide +kernel
theorem k144_94 {d : Nat} {l0 l1 : Option PV} {st : List PV} {M : Mem} {Q : Option PV → Mem → Prop} : WP d 144 94 [l0, l1] (st) M Q = WP d 144 97 [l0, l1] (vi 200 :: st) M Q := w_sipush mC_144 d144_94 (by decide)
theorem d144_97 : decode cX12_init 97 = .ok (.newarray .int, 2) := by decide +kernel
theorem k144_97 {d : Nat} {l0 l1 : Option PV} {st : List PV} {M : Mem} {Q : Option PV → Mem → Prop} {x : Int32} (hx : ¬ x < 0 ∧ ix x ≤ 100000) : WP d 144 97 [l0, l1] (vi x :: st) M Q = WP d 144 99 [l0, l1] (vr (mX M) :: st) (nw M 13 (ix x) (ix x)) Q := w_nwi mC_144 d144_97 hx
theorem d144_99 : decode cX12_init 99 = .ok (.putfield 45, 3) := by decide +kernel
theorem k144_99 {d : Nat} {l0 l1 : Option PV} {st : List PV} {M : Mem} {Q : Option PV → Mem → Prop} {r q : Nat} (hk : mK M r = 12) : WP d 144 99 [l0, l1] (vr q :: vr r :: st) M Q = WP d 144 102 [l0, l1] (st) (sR M r 20 q) Q := w_putr mC_144 d144_99 fE_12_45 (by decide +kernel) (by rw [hk]; rfl)
theorem d144_102 : decode cX12_init 102 = .ok (.aload_n 0, 1) := by decide +kernel
theorem k144_102 {d x : Nat} {l1 : Option PV} {st : List PV} {M : Mem} {Q : Option PV → Mem → Prop} : WP d 144 102 [some (vr x), l1] (st) M Q = WP d 144 103 [some (vr x), l1] (vr x :: st) M Q := w1 mC_144 d144_102 rfl rfl
theorem d144_103 : decode cX12_init 103 = .ok (.bipush 6, 2) := by decide +kernel
theorem k144_103 {d : Nat} {l0 l1 : Option PV} {st : List PV} {M : Mem} {Q : Option PV → Mem → Prop} : WP d 144 103 [l0, l1] (st) M Q = WP d 144 105 [l0, l1] (vi 6 :: st) M Q := w_bipush mC_144 d144_103 (by decide)
theorem d144_105 : decode cX12_init 105 = .ok (.newarray .int, 2) := by decide +kernel
theorem k144_105 {d : Nat} {l0 l1 : Option PV} {st : List PV} {M : Mem} {Q : Option PV → Mem → Prop} {x : Int32} (hx : ¬ x < 0 ∧ ix x ≤ 100000) : WP d 144 105 [l0, l1] (vi x :: st) M Q = WP d 144 107 [l0, l1] (vr (mX M) :: st) (nw M 13 (ix x) (ix x)) Q := w_nwi mC_144 d144_105 hx
theorem d144_107 : decode cX12_init 107 = .ok (.putfield 48, 3) := by decide +kernel
theorem k144_107 {d : Nat} {l0 l1 : Option PV} {st : List PV} {M : Mem} {Q : Option PV → Mem → Prop} {r q : Nat} (hk : mK M r = 12) : WP d 144 107 [l0, l1] (vr q :: vr r :: st) M Q = WP d 144 110 [l0, l1] (st) (sR M r 21 q) Q := w_putr mC_144 d144_107 fE_12_48 (by decide +kernel) (by rw [hk]; rfl)
theorem d144_110 : decode cX12_init 110 = .ok (.aload_n 0, 1) := by decide +kernel
theorem k144_110 {d x : Nat} {l1 : Option PV} {st : List PV} {M : Mem} {Q : Option PV → Mem → Prop} : WP d 144 110 [some (vr x), l1] (st) M Q = WP d 144 111 [some (vr x), l1] (vr x :: st) M Q := w1 mC_144 d144_110 rfl rfl
theorem d144_111 : decode cX12_init 111 = .ok (.iconst 5, 1) := by decide +kernel
theorem k144_111 {d : Nat} {l0 l1 : Option PV} {st : List PV} {M : Mem} {Q : Option PV → Mem → Prop} : WP d 144 111 [l0, l1] (st) M Q = WP d 144 112 [l0, l1] (vi 5 :: st) M Q := w_iconst mC_144 d144_111 (by decide)
theorem d144_112 : decode cX12_init 112 = .ok (.newarray .int, 2) := by decide +kernel
theorem k144_112 {d : Nat} {l0 l1 : Option PV} {st : List PV} {M : Mem} {Q : Option PV → Mem → Prop} {x : Int32} (hx : ¬ x < 0 ∧ ix x ≤ 100000) : WP d 144 112 [l0, l1] (vi x :: st) M Q = WP d 144 114 [l0, l1] (vr (mX M) :: st) (nw M 13 (ix x) (ix x)) Q := w_nwi mC_144 d144_112 hx
theorem d144_114 : decode cX12_init 114 = .ok (.putfield 51, 3) := by decide +kernel
theorem k144_114 {d : Nat} {l0 l1 : Option PV} {st : List PV} {M : Mem} {Q : Option PV → Mem → Prop} {r q : Nat} (hk : mK M r = 12) : WP d 144 114 [l0, l1] (vr q :: vr r :: st) M Q = WP d 144 117 [l0, l1] (st) (sR M r 22 q) Q := w_putr mC_144 d144_114 fE_12_51 (by decide +kernel) (by rw [hk]; rfl)
theorem d144_117 : decode cX12_init 117 = .ok (.aload_n 0, 1) := by decide +kernel
theorem k144_117 {d x : Nat} {l1 : Option PV} {st : List PV} {M : Mem} {Q : Option PV → Mem → Prop} : WP d 144 117 [some (vr x), l1] (st) M Q = WP d 144 118 [some (vr x), l1] (vr x :: st) M Q := w1 mC_144 d144_117 rfl rfl
theorem d144_118 : decode cX12_init 118 = .ok (.bipush 33, 2) := by decide +kernel
theorem k144_118 {d : Nat} {l0 l1 : Option PV} {st : List PV} {M : Mem} {Q : Option PV → Mem → Prop} : WP d 144 118 [l0, l1] (st) M Q = WP d 144 120 [l0, l1] (vi 33 :: st) M Q := w_bipush mC_144 d144_118 (by decide)
theorem d144_120 : decode cX12_init 120 = .ok (.newarray .int, 2) := by decide +kernel
theorem k144_120 {d : Nat} {l0 l1 : Option PV} {st : List PV} {M : Mem} {Q : Option PV → Mem → Prop} {x : Int32} (hx : ¬ x < 0 ∧ ix x ≤ 100000) : WP d 144 120 [l0, l1] (vi x :: st) M Q = WP d 144 122 [l0, l1] (vr (mX M) :: st) (nw M 13 (ix x) (ix x)) Q := w_nwi mC_144 d144_120 hx
theorem d144_122 : decode cX12_init 122 = .ok (.putfield 54, 3) := by decide +kernel
theorem k144_122 {d : Nat} {l0 l1 : Option PV} {st : List PV} {M : Mem} {Q : Option PV → Mem → Prop} {r q : Nat} (hk : mK M r = 12) : WP d 144 122 [l0, l1] (vr q :: vr r :: st) M Q = WP d 144 125 [l0, l1] (st) (sR M r 26 q) Q := w_putr mC_144 d144_122 fE_12_54 (by decide +kernel) (by rw [hk]; rfl)
theorem d144_125 : decode cX12_init 125 = .ok (.aload_n 0, 1) := by decide +kernel
theorem k144_125 {d x : Nat} {l1 : Option PV} {st : List PV} {M : Mem} {Q : Option PV → Mem → Prop} : WP d 144 125 [some (vr x), l1] (st) M Q = WP d 144 126 [some (vr x), l1] (vr x :: st) M Q := w1 mC_144 d144_125 rfl rfl
theorem d144_126 : decode cX12_init 126 = .ok (.iconst 5, 1) := by decide +kernel
theorem k144_126 {d : Nat} {l0 l1 : Option PV} {st : List PV} {M : Mem} {Q : Option PV → Mem → Prop} : WP d 144 126 [l0, l1] (st) M Q = WP d 144 127 [l0, l1] (vi 5 :: st) M Q := w_iconst mC_144 d144_126 (by decide)
theorem d144_127 : decode cX12_init 127 = .ok (.newarray .int, 2) := by decide +kernel
theorem k144_127 {d : Nat} {l0 l1 : Option PV} {st : List PV} {M : Mem} {Q : Option PV → Mem → Prop} {x : Int32} (hx : ¬ x < 0 ∧ ix x ≤ 100000) : WP d 144 127 [l0, l1] (vi x :: st) M Q = WP d 144 129 [l0, l1] (vr (mX M) :: st) (nw M 13 (ix x) (ix x)) Q := w_nwi mC_144 d144_127 hx
theorem d144_129 : decode cX12_init 129 = .ok (.putfield 57, 3) := by decide +kernel
theorem k144_129 {d : Nat} {l0 l1 : Option PV} {st : List PV} {M : Mem} {Q : Option PV → Mem → Prop} {r q : Nat} (hk : mK M r = 12) : WP d 144 129 [l0, l1] (vr q :: vr r :: st) M Q = WP d 144 132 [l0, l1] (st) (sR M r 27 q) Q := w_putr mC_144 d144_129 fE_12_57 (by decide +kernel) (by rw [hk]; rfl)
theorem d144_132 : decode cX12_init 132 = .ok (.aload_n 0, 1) := by decide +kernel
theorem k144_132 {d x : Nat} {l1 : Option PV} {st : List PV} {M : Mem} {Q : Option PV → Mem → Prop} : WP d 144 132 [some (vr x), l1] (st) M Q = WP d 144 133 [some (vr x), l1] (vr x :: st) M Q := w1 mC_144 d144_132 rfl rfl
theorem d144_133 : decode cX12_init 133 = .ok (.sipush 160, 3) := by decide +kernel
theorem k144_133 {d : Nat} {l0 l1 : Option PV} {st : List PV} {M : Mem} {Q : Option PV → Mem → Prop} : WP d 144 133 [l0, l1] (st) M Q = WP d 144 136 [l0, l1] (vi 160 :: st) M Q := w_sipush mC_144 d144_133 (by decide)
theorem d144_136 : decode cX12_init 136 = .ok (.newarray .int, 2) := by decide +kernel
theorem k144_136 {d : Nat} {l0 l1 : Option PV} {st : List PV} {M : Mem} {Q : Option PV → Mem → Prop} {x : Int32} (hx : ¬ x < 0 ∧ ix x ≤ 100000) : WP d 144 136 [l0, l1] (vi x :: st) M Q = WP d 144 138 [l0, l1] (vr (mX M) :: st) (nw M 13 (ix x) (ix x)) Q := w_nwi mC_144 d144_136 hx
theorem d144_138 : decode cX12_init 138 = .ok (.putfield 60, 3) := by decide +kernel
theorem k144_138 {d : Nat} {l0 l1 : Option PV} {st : List PV} {M : Mem} {Q : Option PV → Mem → Prop} {r q : Nat} (hk : mK M r = 12) : WP d 144 138 [l0, l1] (vr q :: vr r :: st) M Q = WP d 144 141 [l0, l1] (st) (sR M r 30 q) Q := w_putr mC_144 d144_138 fE_12_60 (by decide +kernel) (by rw [hk]; rfl)
theorem d144_141 : decode cX12_init 141 = .ok (.aload_n 0, 1) := by decide +kernel
theorem k144_141 {d x : Nat} {l1 : Option PV} {st : List PV} {M : Mem} {Q : Option PV → Mem → Prop} : WP d 144 141 [some (vr x), l1] (st) M Q = WP d 144 142 [some (vr x), l1] (vr x :: st) M Q := w1 mC_144 d144_141 rfl rfl
theorem d144_142 : decode cX12_init 142 = .ok (.bipush 50, 2) := by decide +kernel
theorem k144_142 {d : Nat} {l0 l1 : Option PV} {st : List PV} {M : Mem} {Q : Option PV → Mem → Prop} : WP d 144 142 [l0, l1] (st) M Q = WP d 144 144 [l0, l1] (vi 50 :: st) M Q := w_bipush mC_144 d144_142 (by decide)
theorem d144_144 : decode cX12_init 144 = .ok (.newarray .int, 2) := by decide +kernel
theorem k144_144 {d : Nat} {l0 l1 : Option PV} {st : List PV} {M : Mem} {Q : Option PV → Mem → Prop} {x : Int32} (hx : ¬ x < 0 ∧ ix x ≤ 100000) : WP d 144 144 [l0, l1] (vi x :: st) M Q = WP d 144 146 [l0, l1] (vr (mX M) :: st) (nw M 13 (ix x) (ix x)) Q := w_nwi mC_144 d144_144 hx
theorem d144_146 : decode cX12_init 146 = .ok (.putfield 63, 3) := by decide +kernel
theorem k144_146 {d : Nat} {l0 l1 : Option PV} {st : List PV} {M : Mem} {Q : Option PV → Mem → Prop} {r q : Nat} (hk : mK M r = 12) : WP d 144 146 [l0, l1] (vr q :: vr r :: st) M Q = WP d 144 149 [l0, l1] (st) (sR M r 32 q) Q := w_putr mC_144 d144_146 fE_12_63 (by decide +kernel) (by rw [hk]; rfl)
theorem d144_149 : decode cX12_init 149 = .ok (.aload_n 0, 1) := by decide +kernel
theorem k144_149 {d x : Nat} {l1 : Option PV} {st : List PV} {M : Mem} {Q : Option PV → Mem → Prop} : WP d 144 149 [some (vr x), l1] (st) M Q = WP d 144 150 [some (vr x), l1] (vr x :: st) M Q := w1 mC_144 d144_149 rfl rfl
theorem d144_150 : decode cX12_init 150 = .ok (.bipush 24, 2) := by decide +kernel
theorem k144_150 {d : Nat} {l0 l1 : Option PV} {st : List PV} {M : Mem} {Q : Option PV → Mem → Prop} : WP d 144 150 [l0, l1] (st) M Q = WP d 144 152 [l0, l1] (vi 24 :: st) M Q := w_bipush mC_144 d144_150 (by decide)
theorem d144_152 : decode cX12_init 152 = .ok (.newarray .int, 2) := by decide +kernel
theorem k144_152 {d : Nat} {l0 l1 : Option PV} {st : List PV} {M : Mem} {Q : Option PV → Mem → Prop} {x : Int32} (hx : ¬ x < 0 ∧ ix x ≤ 100000) : WP d 144 152 [l0, l1] (vi x :: st) M Q = WP d 144 154 [l0, l1] (vr (mX M) :: st) (nw M 13 (ix x) (ix x)) Q := w_nwi mC_144 d144_152 hx
theorem d144_154 : decode cX12_init 154 = .ok (.putfield 66, 3) := by decide +kernel
theorem k144_154 {d : Nat} {l0 l1 : Option PV} {st : List PV} {M : Mem} {Q : Option PV → Mem → Prop} {r q : Nat} (hk : mK M r = 12) : WP d 144 154 [l0, l1] (vr q :: vr r :: st) M Q = WP d 144 157 [l0, l1] (st) (sR M r 34 q) Q := w_putr mC_144 d144_154 fE_12_66 (by decide +kernel) (by rw [hk]; rfl)
theorem d144_157 : decode cX12_init 157 = .ok (.aload_n 0, 1) := by decide +kernel
theorem k144_157 {d x : Nat} {l1 : Option PV} {st : List PV} {M : Mem} {Q : Option PV → Mem → Prop} : WP d 144 157 [some (vr x), l1] (st) M Q = WP d 144 158 [some (vr x), l1] (vr x :: st) M Q := w1 mC_144 d144_157 rfl rfl
theorem d144_158 : decode cX12_init 158 = .ok (.bipush 6, 2) := by decide +kernel
theorem k144_158 {d : Nat} {l0 l1 : Option PV} {st : List PV} {M : Mem} {Q : Option PV → Mem → Prop} : WP d 144 158 [l0, l1] (st) M Q = WP d 144 160 [l0, l1] (vi 6 :: st) M Q := w_bipush mC_144 d144_158 (by decide)
theorem d144_160 : decode cX12_init 160 = .ok (.newarray .int, 2) := by decide +kernel
theorem k144_160 {d : Nat} {l0 l1 : Option PV} {st : List PV} {M : Mem} {Q : Option PV → Mem → Prop} {x : Int32} (hx : ¬ x < 0 ∧ ix x ≤ 100000) : WP d 144 160 [l0, l1] (vi x :: st) M Q = WP d 144 162 [l0, l1] (vr (mX M) :: st) (nw M 13 (ix x) (ix x)) Q := w_nwi mC_144 d144_160 hx
theorem d144_162 : decode cX12_init 162 = .ok (.putfield 69, 3) := by decide +kernel
theorem k144_162 {d : Nat} {l0 l1 : Option PV} {st : List PV} {M : Mem} {Q : Option PV → Mem → Prop} {r q : Nat} (hk : mK M r = 12) : WP d 144 162 [l0, l1] (vr q :: vr r :: st) M Q = WP d 144 165 [l0, l1] (st) (sR M r 35 q) Q := w_putr mC_144 d144_162 fE_12_69 (by decide +kernel) (by rw [hk]; rfl)
theorem d144_165 : decode cX12_init 165 = .ok (.aload_n 0, 1) := by decide +kernel
theorem k144_165 {d x : Nat} {l1 : Option PV} {st : List PV} {M : Mem} {Q : Option PV → Mem → Prop} : WP d 144 165 [some (vr x), l1] (st) M Q = WP d 144 166 [some (vr x), l1] (vr x :: st) M Q := w1 mC_144 d144_165 rfl rfl
theorem d144_166 : decode cX12_init 166 = .ok (.bipush 6, 2) := by decide +kernel
theorem k144_166 {d : Nat} {l0 l1 : Option PV} {st : List PV} {M : Mem} {Q : Option PV → Mem → Prop} : WP d 144 166 [l0, l1] (st) M Q = WP d 144 168 [l0, l1] (vi 6 :: st) M Q := w_bipush mC_144 d144_166 (by decide)
theorem d144_168 : decode cX12_init 168 = .ok (.newarray .int, 2) := by decide +kernel
theorem k144_168 {d : Nat} {l0 l1 : Option PV} {st : List PV} {M : Mem} {Q : Option PV → Mem → Prop} {x : Int32} (hx : ¬ x < 0 ∧ ix x ≤ 100000) : WP d 144 168 [l0, l1] (vi x :: st) M Q = WP d 144 170 [l0, l1] (vr (mX M) :: st) (nw M 13 (ix x) (ix x)) Q := w_nwi mC_144 d144_168 hx
theorem d144_170 : decode cX12_init 170 = .ok (.putfield 72, 3) := by decide +kernel
theorem k144_170 {d : Nat} {l0 l1 : Option PV} {st : List PV} {M : Mem} {Q : Option PV → Mem → Prop} {r q : Nat} (hk : mK M r = 12) : WP d 144 170 [l0, l1] (vr q :: vr r :: st) M Q = WP d 144 173 [l0, l1] (st) (sR M r 36 q) Q := w_putr mC_144 d144_170 fE_12_72 (by decide +kernel) (by rw [hk]; rfl)
theorem d144_173 : decode cX12_init 173 = .ok (.aload_n 0, 1) := by decide +kernel
theorem k144_173 {d x : Nat} {l1 : Option PV} {st : List PV} {M : Mem} {Q : Option PV → Mem → Prop} : WP d 144 173 [some (vr x), l1] (st) M Q = WP d 144 174 [some (vr x), l1] (vr x :: st) M Q := w1 mC_144 d144_173 rfl rfl
theorem d144_174 : decode cX12_init 174 = .ok (.sipush 360, 3) := by decide +kernel
theorem k144_174 {d : Nat} {l0 l1 : Option PV} {st : List PV} {M : Mem} {Q : Option PV → Mem → Prop} : WP d 144 174 [l0, l1] (st) M Q = WP d 144 177 [l0, l1] (vi 360 :: st) M Q := w_sipush mC_144 d144_174 (by decide)
theorem d144_177 : decode cX12_init 177 = .ok (.newarray .long, 2) := by decide +kernel
theorem k144_177 {d : Nat} {l0 l1 : Option PV} {st : List PV} {M : Mem} {Q : Option PV → Mem → Prop} {x : Int32} (hx : ¬ x < 0 ∧ ix x ≤ 100000) : WP d 144 177 [l0, l1] (vi x :: st) M Q = WP d 144 179 [l0, l1] (vr (mX M) :: st) (nw M 14 (ix x) (ix x)) Q := w_nwl mC_144 d144_177 hx
theorem d144_179 : decode cX12_init 179 = .ok (.putfield 75, 3) := by decide +kernel
theorem k144_179 {d : Nat} {l0 l1 : Option PV} {st : List PV} {M : Mem} {Q : Option PV → Mem → Prop} {r q : Nat} (hk : mK M r = 12) : WP d 144 179 [l0, l1] (vr q :: vr r :: st) M Q = WP d 144 182 [l0, l1] (st) (sR M r 37 q) Q := w_putr mC_144 d144_179 fE_12_75 (by decide +kernel) (by rw [hk]; rfl)
theorem d144_182 : decode cX12_init 182 = .ok (.aload_n 0, 1) := by decide +kernel
theorem k144_182 {d x : Nat} {l1 : Option PV} {st : List PV} {M : Mem} {Q : Option PV → Mem → Prop} : WP d 144 182 [some (vr x), l1] (st) M Q = WP d 144 183 [some (vr x), l1] (vr x :: st) M Q := w1 mC_144 d144_182 rfl rfl
theorem d144_183 : decode cX12_init 183 = .ok (.bipush 33, 2) := by decide +kernel
theorem k144_183 {d : Nat} {l0 l1 : Option PV} {st : List PV} {M : Mem} {Q : Option PV → Mem → Prop} : WP d 144 183 [l0, l1] (st) M Q = WP d 144 185 [l0, l1] (vi 33 :: st) M Q := w_bipush mC_144 d144_183 (by decide)
theorem d144_185 : decode cX12_init 185 = .ok (.newarray .int, 2) := by decide +kernel
theorem k144_185 {d : Nat} {l0 l1 : Option PV} {st : List PV} {M : Mem} {Q : Option PV → Mem → Prop} {x : Int32} (hx : ¬ x < 0 ∧ ix x ≤ 100000) : WP d 144 185 [l0, l1] (vi x :: st) M Q = WP d 144 187 [l0, l1] (vr (mX M) :: st) (nw M 13 (ix x) (ix x)) Q := w_nwi mC_144 d144_185 hx
theorem d144_187 : decode cX12_init 187 = .ok (.putfield 79, 3) := by decide +kernel
theorem k144_187 {d : Nat} {l0 l1 : Option PV} {st : List PV} {M : Mem} {Q : Option PV → Mem → Prop} {r q : Nat} (hk : mK M r = 12) : WP d 144 187 [l0, l1] (vr q :: vr r :: st) M Q = WP d 144 190 [l0, l1] (st) (sR M r 40 q) Q := w_putr mC_144 d144_187 fE_12_79 (by decide +kernel) (by rw [hk]; rfl)
theorem d144_190 : decode cX12_init 190 = .ok (.aload_n 0, 1) := by decide +kernel
theorem k144_190 {d x : Nat} {l1 : Option PV} {st : List PV} {M : Mem} {Q : Option PV → Mem → Prop} : WP d 144 190 [some (vr x), l1] (st) M Q = WP d 144 191 [some (vr x), l1] (vr x :: st) M Q := w1 mC_144 d144_190 rfl rfl
theorem d144_191 : decode cX12_init 191 = .ok (.bipush 33, 2) := by decide +kernel
theorem k144_191 {d : Nat} {l0 l1 : Option PV} {st : List PV} {M : Mem} {Q : Option PV → Mem → Prop} : WP d 144 191 [l0, l1] (st) M Q = WP d 144 193 [l0, l1] (vi 33 :: st) M Q := w_bipush mC_144 d144_191 (by decide)
theorem d144_193 : decode cX12_init 193 = .ok (.newarray .int, 2) := by decide +kernel
theorem k144_193 {d : Nat} {l0 l1 : Option PV} {st : List PV} {M : Mem} {Q : Option PV → Mem → Prop} {x : Int32} (hx : ¬ x < 0 ∧ ix x ≤ 100000) : WP d 144 193 [l0, l1] (vi x :: st) M Q = WP d 144 195 [l0, l1] (vr (mX M) :: st) (nw M 13 (ix x) (ix x)) Q := w_nwi mC_144 d144_193 hx
theorem d144_195 : decode cX12_init 195 = .ok (.putfield 82, 3) := by decide +kernel
theorem k144_195 {d : Nat} {l0 l1 : Option PV} {st : List PV} {M : Mem} {Q : Option PV → Mem → Prop} {r q : Nat} (hk : mK M r = 12) : WP d 144 195 [l0, l1] (vr q :: vr r :: st) M Q = WP d 144 198 [l0, l1] (st) (sR M r 41 q) Q := w_putr mC_144 d144_195 fE_12_82 (by decide +kernel) (by rw [hk]; rfl)
theorem d144_198 : decode cX12_init 198 = .ok (.aload_n 0, 1) := by decide +kernel
theorem k144_198 {d x : Nat} {l1 : Option PV} {st : List PV} {M : Mem} {Q : Option PV → Mem → Prop} : WP d 144 198 [some (vr x), l1] (st) M Q = WP d 144 199 [some (vr x), l1] (vr x :: st) M Q := w1 mC_144 d144_198 rfl rfl
theorem d144_199 : decode cX12_init 199 = .ok (.iconst 2, 1) := by decide +kernel
theorem k144_199 {d : Nat} {l0 l1 : Option PV} {st : List PV} {M : Mem} {Q : Option PV → Mem → Prop} : WP d 144 199 [l0, l1] (st) M Q = WP d 144 200 [l0, l1] (vi 2 :: st) M Q := w_iconst mC_144 d144_199 (by decide)
theorem d144_200 : decode cX12_init 200 = .ok (.newarray .int, 2) := by decide +kernel
theorem k144_200 {d : Nat} {l0 l1 : Option PV} {st : List PV} {M : Mem} {Q : Option PV → Mem → Prop} {x : Int32} (hx : ¬ x < 0 ∧ ix x ≤ 100000) : WP d 144 200 [l0, l1] (vi x :: st) M Q = WP d 144 202 [l0, l1] (vr (mX M) :: st) (nw M 13 (ix x) (ix x)) Q := w_nwi mC_144 d144_200 hx
theorem d144_202 : decode cX12_init 202 = .ok (.putfield 85, 3) := by decide +kernel
theorem k144_202 {d : Nat} {l0 l1 : Option PV} {st : List PV} {M : Mem} {Q : Option PV → Mem → Prop} {r q : Nat} (hk : mK M r = 12) : WP d 144 202 [l0, l1] (vr q :: vr r :: st) M Q = WP d 144 205 [l0, l1] (st) (sR M r 42 q) Q := w_putr mC_144 d144_202 fE_12_85 (by decide +kernel) (by rw [hk]; rfl)
theorem d144_205 : decode cX12_init 205 = .ok (.aload_n 0, 1) := by decide +kernel
theorem k144_205 {d x : Nat} {l1 : Option PV} {st : List PV} {M : Mem} {Q : Option PV → Mem → Prop} : WP d 144 205 [some (vr x), l1] (st) M Q = WP d 144 206 [some (vr x), l1] (vr x :: st) M Q := w1 mC_144 d144_205 rfl rfl
theorem d144_206 : decode cX12_init 206 = .ok (.bipush 64, 2) := by decide +kernel
theorem k144_206 {d : Nat} {l0 l1 : Option PV} {st : List PV} {M : Mem} {Q : Option PV → Mem → Prop} : WP d 144 206 [l0, l1] (st) M Q = WP d 144 208 [l0, l1] (vi 64 :: st) M Q := w_bipush mC_144 d144_206 (by decide)
theorem d144_208 : decode cX12_init 208 = .ok (.newarray .int, 2) := by decide +kernel
theorem k144_208 {d : Nat} {l0 l1 : Option PV} {st : List PV} {M : Mem} {Q : Option PV → Mem → Prop} {x : Int32} (hx : ¬ x < 0 ∧ ix x ≤ 100000) : WP d 144 208 [l0, l1] (vi x :: st) M Q = WP d 144 210 [l0, l1] (vr (mX M) :: st) (nw M 13 (ix x) (ix x)) Q := w_nwi mC_144 d144_208 hx
theorem d144_210 : decode cX12_init 210 = .ok (.putfield 88, 3) := by decide +kernel
theorem k144_210 {d : Nat} {l0 l1 : Option PV} {st : List PV} {M : Mem} {Q : Option PV → Mem → Prop} {r q : Nat} (hk : mK M r = 12) : WP d 144 210 [l0, l1] (vr q :: vr r :: st) M Q = WP d 144 213 [l0, l1] (st) (sR M r 43 q) Q := w_putr mC_144 d144_210 fE_12_88 (by decide +kernel) (by rw [hk]; rfl)
theorem d144_213 : decode cX12_init 213 = .ok (.aload_n 0, 1) := by decide +kernel
theorem k144_213 {d x : Nat} {l1 : Option PV} {st : List PV} {M : Mem} {Q : Option PV → Mem → Prop} : WP d 144 213 [some (vr x), l1] (st) M Q = WP d 144 214 [some (vr x), l1] (vr x :: st) M Q := w1 mC_144 d144_213 rfl rfl
theorem d144_214 : decode cX12_init 214 = .ok (.bipush 8, 2) := by decide +kernel
theorem k144_214 {d : Nat} {l0 l1 : Option PV} {st : List PV} {M : Mem} {Q : Option PV → Mem → Prop} : WP d 144 214 [l0, l1] (st) M Q = WP d 144 216 [l0, l1] (vi 8 :: st) M Q := w_bipush mC_144 d144_214 (by decide)
theorem d144_216 : decode cX12_init 216 = .ok (.newarray .int, 2) := by decide +kernel
theorem k144_216 {d : Nat} {l0 l1 : Option PV} {st : List PV} {M : Mem} {Q : Option PV → Mem → Prop} {x : Int32} (hx : ¬ x < 0 ∧ ix x ≤ 100000) : WP d 144 216 [l0, l1] (vi x :: st) M Q = WP d 144 218 [l0, l1] (vr (mX M) :: st) (nw M 13 (ix x) (ix x)) Q := w_nwi mC_144 d144_216 hx
theorem d144_218 : decode cX12_init 218 = .ok (.putfield 91, 3) := by decide +kernel
theorem k144_218 {d : Nat} {l0 l1 : Option PV} {st : List PV} {M : Mem} {Q : Option PV → Mem → Prop} {r q : Nat} (hk : mK M r = 12) : WP d 144 218 [l0, l1] (vr q :: vr r :: st) M Q = WP d 144 221 [l0, l1] (st) (sR M r 44 q) Q := w_putr mC_144 d144_218 fE_12_91 (by decide +kernel) (by rw [hk]; rfl)
theorem d144_221 : decode cX12_init 221 = .ok (.aload_n 0, 1) := by decide +kernel
theorem k144_221 {d x : Nat} {l1 : Option PV} {st : List PV} {M : Mem} {Q : Option PV → Mem → Prop} : WP d 144 221 [some (vr x), l1] (st) M Q = WP d 144 222 [some (vr x), l1] (vr x :: st) M Q := w1 mC_144 d144_221 rfl rfl
theorem d144_222 : decode cX12_init 222 = .ok (.bipush 8, 2) := by decide +kernel
theorem k144_222 {d : Nat} {l0 l1 : Option PV} {st : List PV} {M : Mem} {Q : Option PV → Mem → Prop} : WP d 144 222 [l0, l1] (st) M Q = WP d 144 224 [l0, l1] (vi 8 :: st) M Q := w_bipush mC_144 d144_222 (by decide)
theorem d144_224 : decode cX12_init 224 = .ok (.newarray .int, 2) := by decide +kernel
theorem k144_224 {d : Nat} {l0 l1 : Option PV} {st : List PV} {M : Mem} {Q : Option PV → Mem → Prop} {x : Int32} (hx : ¬ x < 0 ∧ ix x ≤ 100000) : WP d 144 224 [l0, l1] (vi x :: st) M Q = WP d 144 226 [l0, l1] (vr (mX M) :: st) (nw M 13 (ix x) (ix x)) Q := w_nwi mC_144 d144_224 hx
theorem d144_226 : decode cX12_init 226 = .ok (.putfield 94, 3) := by decide +kernel
theorem k144_226 {d : Nat} {l0 l1 : Option PV} {st : List PV} {M : Mem} {Q : Option PV → Mem → Prop} {r q : Nat} (hk : mK M r = 12) : WP d 144 226 [l0, l1] (vr q :: vr r :: st) M Q = WP d 144 229 [l0, l1] (st) (sR M r 45 q) Q := w_putr mC_144 d144_226 fE_12_94 (by decide +kernel) (by rw [hk]; rfl)
theorem d144_229 : decode cX12_init 229 = .ok (.aload_n 0, 1) := by decide +kernel
theorem k144_229 {d x : Nat} {l1 : Option PV} {st : List PV} {M : Mem} {Q : Option PV → Mem → Prop} : WP d 144 229 [some (vr x), l1] (st) M Q = WP d 144 230 [some (vr x), l1] (vr x :: st) M Q := w1 mC_144 d144_229 rfl rfl
theorem d144_230 : decode cX12_init 230 = .ok (.bipush 104, 2) := by decide +kernel
theorem k144_230 {d : Nat} {l0 l1 : Option PV} {st : List PV} {M : Mem} {Q : Option PV → Mem → Prop} : WP d 144 230 [l0, l1] (st) M Q = WP d 144 232 [l0, l1] (vi 104 :: st) M Q := w_bipush mC_144 d144_230 (by decide)
theorem d144_232 : decode cX12_init 232 = .ok (.newarray .int, 2) := by decide +kernel
theorem k144_232 {d : Nat} {l0 l1 : Option PV} {st : List PV} {M : Mem} {Q : Option PV → Mem → Prop} {x : Int32} (hx : ¬ x < 0 ∧ ix x ≤ 100000) : WP d 144 232 [l0, l1] (vi x :: st) M Q = WP d 144 234 [l0, l1] (vr (mX M) :: st) (nw M 13 (ix x) (ix x)) Q := w_nwi mC_144 d144_232 hx
theorem d144_234 : decode cX12_init 234 = .ok (.putfield 97, 3) := by decide +kernel
theorem k144_234 {d : Nat} {l0 l1 : Option PV} {st : List PV} {M : Mem} {Q : Option PV → Mem → Prop} {r q : Nat} (hk : mK M r = 12) : WP d 144 234 [l0, l1] (vr q :: vr r :: st) M Q = WP d 144 237 [l0, l1] (st) (sR M r 47 q) Q := w_putr mC_144 d144_234 fE_12_97 (by decide +kernel) (by rw [hk]; rfl)
theorem d144_237 : decode cX12_init 237 = .ok (.aload_n 0, 1) := by decide +kernel
theorem k144_237 {d x : Nat} {l1 : Option PV} {st : List PV} {M : Mem} {Q : Option PV → Mem → Prop} : WP d 144 237 [some (vr x), l1] (st) M Q = WP d 144 238 [some (vr x), l1] (vr x :: st) M Q := w1 mC_144 d144_237 rfl rfl
theorem d144_238 : decode cX12_init 238 = .ok (.getfield 15, 3) := by decide +kernel
theorem k144_238 {d : Nat} {l0 l1 : Option PV} {st : List PV} {M : Mem} {Q : Option PV → Mem → Prop} {r : Nat} (hk : mK M r = 12) : WP d 144 238 [l0, l1] (vr r :: st) M Q = WP d 144 241 [l0, l1] (vr (mR M r 3) :: st) M Q := w_getr mC_144 d144_238 fE_12_15 rfl (by rw [hk]; rfl)
theorem d144_241 : decode cX12_init 241 = .ok (.iconst 0, 1) := by decide +kernel
theorem k144_241 {d : Nat} {l0 l1 : Option PV} {st : List PV} {M : Mem} {Q : Option PV → Mem → Prop} : WP d 144 241 [l0, l1] (st) M Q = WP d 144 242 [l0, l1] (vi 0 :: st) M Q := w_iconst mC_144 d144_241 (by decide)
theorem d144_242 : decode cX12_init 242 = .ok (.iconst 5, 1) := by decide +kernel
theorem k144_242 {d : Nat} {l0 l1 : Option PV} {st : List PV} {M : Mem} {Q : Option PV → Mem → Prop} : WP d 144 242 [l0, l1] (st) M Q = WP d 144 243 [l0, l1] (vi 5 :: st) M Q := w_iconst mC_144 d144_242 (by decide)
theorem d144_243 : decode cX12_init 243 = .ok (.iastore, 1) := by decide +kernel
theorem k144_243 {d : Nat} {l0 l1 : Option PV} {st : List PV} {M : Mem} {Q : Option PV → Mem → Prop} {r : Nat} {j x : Int32} (hk : mK M r = 13) (hj : inb j (mN M r)) (h1 : r ≠ 1) : WP d 144 243 [l0, l1] (vi x :: vi j :: vr r :: st) M Q = WP d 144 244 [l0, l1] (st) (sI M r (ix j) x) Q := w_iast mC_144 d144_243 hk hj h1
theorem d144_244 : decode cX12_init 244 = .ok (.iconst 0, 1) := by decide +kernel
theorem k144_244 {d : Nat} {l0 l1 : Option PV} {st : List PV} {M : Mem} {Q : Option PV → Mem → Prop} : WP d 144 244 [l0, l1] (st) M Q = WP d 144 245 [l0, l1] (vi 0 :: st) M Q := w_iconst mC_144 d144_244 (by decide)
theorem d144_245 : decode cX12_init 245 = .ok (.istore_n 1, 1) := by decide +kernel
theorem k144_245 {d : Nat} {l0 l1 : Option PV} {st : List PV} {M : Mem} {Q : Option PV → Mem → Prop} {x : Int32} : WP d 144 245 [l0, l1] (vi x :: st) M Q = WP d 144 246 [l0, some (vi x)] (st) M Q := w1 mC_144 d144_245 rfl rfl
theorem d144_246 : decode cX12_init 246 = .ok (.iload_n 1, 1) := by decide +kernel
theorem k144_246 {d : Nat} {x : Int32} {l0 : Option PV} {st : List PV} {M : Mem} {Q : Option PV → Mem → Prop} : WP d 144 246 [l0, some (vi x)] (st) M Q = WP d 144 247 [l0, some (vi x)] (vi x :: st) M Q := w1 mC_144 d144_246 rfl rfl
theorem d144_247 : decode cX12_init 247 = .ok (.bipush 6, 2) := by decide +kernel
theorem k144_247 {d : Nat} {l0 l1 : Option PV} {st : List PV} {M : Mem} {Q : Option PV → Mem → Prop} : WP d 144 247 [l0, l1] (st) M Q = WP d 144 249 [l0, l1] (vi 6 :: st) M Q := w_bipush mC_144 d144_247 (by decide)
theorem d144_249 : decode cX12_init 249 = .ok (.if_icmp .ge 16, 3) := by decide +kernel
theorem k144_249 {d : Nat} {l0 l1 : Option PV} {st : List PV} {M : Mem} {Q : Option PV → Mem → Prop} {x y : Int32} : WP d 144 249 [l0, l1] (vi y :: vi x :: st) M Q = (if y ≤ x then WP d 144 265 [l0, l1] (st) M Q else WP d 144 252 [l0, l1] (st) M Q) := w_ic_ge mC_144 d144_249 (by decide)
theorem d144_252 : decode cX12_init 252 = .ok (.aload_n 0, 1) := by decide +kernel
theorem k144_252 {d x : Nat} {l1 : Option PV} {st : List PV} {M : Mem} {Q : Option PV → Mem → Prop} : WP d 144 252 [some (vr x), l1] (st) M Q = WP d 144 253 [some (vr x), l1] (vr x :: st) M Q := w1 mC_144 d144_252 rfl rfl
theorem d144_253 : decode cX12_init 253 = .ok (.getfield 69, 3) := by decide +kernel
theorem k144_253 {d : Nat} {l0 l1 : Option PV} {st : List PV} {M : Mem} {Q : Option PV → Mem → Prop} {r : Nat} (hk : mK M r = 12) : WP d 144 253 [l0, l1] (vr r :: st) M Q = WP d 144 256 [l0, l1] (vr (mR M r 35) :: st) M Q := w_getr mC_144 d144_253 fE_12_69 rfl (by rw [hk]; rfl)
theorem d144_256 : decode cX12_init 256 = .ok (.iload_n 1, 1) := by decide +kernel
theorem k144_256 {d : Nat} {x : Int32} {l0 : Option PV} {st : List PV} {M : Mem} {Q : Option PV → Mem → Prop} : WP d 144 256 [l0, some (vi x)] (st) M Q = WP d 144 257 [l0, some (vi x)] (vi x :: st) M Q := w1 mC_144 d144_256 rfl rfl
theorem d144_257 : decode cX12_init 257 = .ok (.iconst (-1), 1) := by decide +kernel
theorem k144_257 {d : Nat} {l0 l1 : Option PV} {st : List PV} {M : Mem} {Q : Option PV → Mem → Prop} : WP d 144 257 [l0, l1] (st) M Q = WP d 144 258 [l0, l1] (vi (-1) :: st) M Q := w_iconst mC_144 d144_257 (by decide)
theorem d144_258 : decode cX12_init 258 = .ok (.iastore, 1) := by decide +kernel
theorem k144_258 {d : Nat} {l0 l1 : Option PV} {st : List PV} {M : Mem} {Q : Option PV → Mem → Prop} {r : Nat} {j x : Int32} (hk : mK M r = 13) (hj : inb j (mN M r)) (h1 : r ≠ 1) : WP d 144 258 [l0, l1] (vi x :: vi j :: vr r :: st) M Q = WP d 144 259 [l0, l1] (st) (sI M r (ix j) x) Q := w_iast mC_144 d144_258 hk hj h1
theorem d144_259 : decode cX12_init 259 = .ok (.iinc 1 1, 3) := by decide +kernel
theorem k144_259 {d : Nat} {x : Int32} {l0 : Option PV} {st : List PV} {M : Mem} {Q : Option PV → Mem → Prop} : WP d 144 259 [l0, some (vi x)] (st) M Q = WP d 144 262 [l0, some (vi (x + 1))] (st) M Q := w_iinc mC_144 d144_259 rfl (by decide) rfl
theorem d144_262 : decode cX12_init 262 = .ok (.goto (-16), 3) := by decide +kernel
theorem k144_262 {d : Nat} {l0 l1 : Option PV} {st : List PV} {M : Mem} {Q : Option PV → Mem → Prop} : WP d 144 262 [l0, l1] (st) M Q = WP d 144 246 [l0, l1] (st) M Q := w_goto mC_144 d144_262 (by decide)
theorem d144_265 : decode cX12_init 265 = .ok (.return_, 1) := by decide +kernel
theorem k144_265 {d : Nat} {l0 l1 : Option PV} {M : Mem} {Q : Option PV → Mem → Prop} : WP d 144 265 [l0, l1] ([]) M Q = Q none M := w_vret mC_144 d144_265 rfl
theorem d145_0 : decode cX12_within 0 = .ok (.iload_n 0, 1) := by decide +kernel
theorem k145_0 {d : Nat} {x : Int32} {l1 l2 : Option PV} {st : List PV} {M : Mem} {Q : Option PV → Mem → Prop} : WP d 145 0 [some (vi x), l1, l2] (st) M Q = WP d 145 1 [some (vi x), l1, l2] (vi x :: st) M Q := w1 mC_145 d145_0 rfl rfl
theorem d145_1 : decode cX12_within 1 = .ok (.iload_n 1, 1) := by decide +kernel
theorem k145_1 {d : Nat} {x : Int32} {l0 l2 : Option PV} {st : List PV} {M : Mem} {Q : Option PV → Mem → Prop} : WP d 145 1 [l0, some (vi x), l2] (st) M Q = WP d 145 2 [l0, some (vi x), l2] (vi x :: st) M Q := w1 mC_145 d145_1 rfl rfl
theorem d145_2 : decode cX12_within 2 = .ok (.if_icmp .lt 12, 3) := by decide +kernel
theorem k145_2 {d : Nat} {l0 l1 l2 : Option PV} {st : List PV} {M : Mem} {Q : Option PV → Mem → Prop} {x y : Int32} : WP d 145 2 [l0, l1, l2] (vi y :: vi x :: st) M Q = (if x < y then WP d 145 14 [l0, l1, l2] (st) M Q else WP d 145 5 [l0, l1, l2] (st) M Q) := w_ic_lt mC_145 d145_2 (by decide)
theorem d145_5 : decode cX12_within 5 = .ok (.iload_n 0, 1) := by decide +kernel
theorem k145_5 {d : Nat} {x : Int32} {l1 l2 : Option PV} {st : List PV} {M : Mem} {Q : Option PV → Mem → Prop} : WP d 145 5 [some (vi x), l1, l2] (st) M Q = WP d 145 6 [some (vi x), l1, l2] (vi x :: st) M Q := w1 mC_145 d145_5 rfl rfl
theorem d145_6 : decode cX12_within 6 = .ok (.iload_n 2, 1) := by decide +kernel
theorem k145_6 {d : Nat} {x : Int32} {l0 l1 : Option PV} {st : List PV} {M : Mem} {Q : Option PV → Mem → Prop} : WP d 145 6 [l0, l1, some (vi x)] (st) M Q = WP d 145 7 [l0, l1, some (vi x)] (vi x :: st) M Q := w1 mC_145 d145_6 rfl rfl
theorem d145_7 : decode cX12_within 7 = .ok (.if_icmp .gt 7, 3) := by decide +kernel
theorem k145_7 {d : Nat} {l0 l1 l2 : Option PV} {st : List PV} {M : Mem} {Q : Option PV → Mem → Prop} {x y : Int32} : WP d 145 7 [l0, l1, l2] (vi y :: vi x :: st) M Q = (if y < x then WP d 145 14 [l0, l1, l2] (st) M Q else WP d 145 10 [l0, l1, l2] (st) M Q) := w_ic_gt mC_145 d145_7 (by decide)
theorem d145_10 : decode cX12_within 10 = .ok (.iconst 1, 1) := by decide +kernel
theorem k145_10 {d : Nat} {l0 l1 l2 : Option PV} {st : List PV} {M : Mem} {Q : Option PV → Mem → Prop} : WP d 145 10 [l0, l1, l2] (st) M Q = WP d 145 11 [l0, l1, l2] (vi 1 :: st) M Q := w_iconst mC_145 d145_10 (by decide)
theorem d145_11 : decode cX12_within 11 = .ok (.goto 4, 3) := by decide +kernel
theorem k145_11 {d : Nat} {l0 l1 l2 : Option PV} {st : List PV} {M : Mem} {Q : Option PV → Mem → Prop} : WP d 145 11 [l0, l1, l2] (st) M Q = WP d 145 15 [l0, l1, l2] (st) M Q := w_goto mC_145 d145_11 (by decide)
theorem d145_14 : decode cX12_within 14 = .ok (.iconst 0, 1) := by decide +kernel
theorem k145_14 {d : Nat} {l0 l1 l2 : Option PV} {st : List PV} {M : Mem} {Q : Option PV → Mem → Prop} : WP d 145 14 [l0, l1, l2] (st) M Q = WP d 145 15 [l0, l1, l2] (vi 0 :: st) M Q := w_iconst mC_145 d145_14 (by decide)
theorem d145_15 : decode cX12_within 15 = .ok (.ireturn, 1) := by decide +kernel
theorem k145_15 {d : Nat} {l0 l1 l2 : Option PV} {M : Mem} {Q : Option PV → Mem → Prop} {x : Int32} (hx : x = 0 ∨ x = 1) : WP d 145 15 [l0, l1, l2] ([vi x]) M Q = Q (some (vi x)) M := w_zret mC_145 d145_15 rfl hx
theorem d146_0 : decode cX12_isGirl 0 = .ok (.iload_n 1, 1) := by decide +kernel
theorem k146_0 {d : Nat} {x : Int32} {l0 : Option PV} {st : List PV} {M : Mem} {Q : Option PV → Mem → Prop} : WP d 146 0 [l0, some (vi x)] (st) M Q = WP d 146 1 [l0, some (vi x)] (vi x :: st) M Q := w1 mC_146 d146_0 rfl rfl
theorem d146_1 : decode cX12_isGirl 1 = .ok (.iconst 0, 1) := by decide +kernel
theorem k146_1 {d : Nat} {l0 l1 : Option PV} {st : List PV} {M : Mem} {Q : Option PV → Mem → Prop} : WP d 146 1 [l0, l1] (st) M Q = WP d 146 2 [l0, l1] (vi 0 :: st) M Q := w_iconst mC_146 d146_1 (by decide)
theorem d146_2 : decode cX12_isGirl 2 = .ok (.aload_n 0, 1) := by decide +kernel
theorem k146_2 {d x : Nat} {l1 : Option PV} {st : List PV} {M : Mem} {Q : Option PV → Mem → Prop} : WP d 146 2 [some (vr x), l1] (st) M Q = WP d 146 3 [some (vr x), l1] (vr x :: st) M Q := w1 mC_146 d146_2 rfl rfl
theorem d146_3 : decode cX12_isGirl 3 = .ok (.getfield 100, 3) := by decide +kernel
theorem k146_3 {d : Nat} {l0 l1 : Option PV} {st : List PV} {M : Mem} {Q : Option PV → Mem → Prop} {r : Nat} (hk : mK M r = 12) : WP d 146 3 [l0, l1] (vr r :: st) M Q = WP d 146 6 [l0, l1] (vi (mI M r 0) :: st) M Q := w_get mC_146 d146_3 fE_12_100 rfl (by rw [hk]; rfl)
theorem d146_6 : decode cX12_isGirl 6 = .ok (.iconst 1, 1) := by decide +kernel
theorem k146_6 {d : Nat} {l0 l1 : Option PV} {st : List PV} {M : Mem} {Q : Option PV → Mem → Prop} : WP d 146 6 [l0, l1] (st) M Q = WP d 146 7 [l0, l1] (vi 1 :: st) M Q := w_iconst mC_146 d146_6 (by decide)
theorem d146_7 : decode cX12_isGirl 7 = .ok (.isub, 1) := by decide +kernel
theorem k146_7 {d : Nat} {l0 l1 : Option PV} {st : List PV} {M : Mem} {Q : Option PV → Mem → Prop} {x y : Int32} : WP d 146 7 [l0, l1] (vi y :: vi x :: st) M Q = WP d 146 8 [l0, l1] (vi (x - y) :: st) M Q := w1 mC_146 d146_7 rfl rfl
theorem d146_8 : decode cX12_isGirl 8 = .ok (.invokestatic 104, 3) := by decide +kernel
theorem k146_8 {d : Nat} {l0 l1 : Option PV} {st : List PV} {M : Mem} {Q : Option PV → Mem → Prop} {a0 a1 a2 : Int32} (hl : szL st ≤ 8) : WP (d + 1) 146 8 [l0, l1] (vi a2 :: vi a1 :: vi a0 :: st) M Q = WP d 145 0 [some (vi a0), some (vi a1), some (vi a2)] [] M (fun v M' => WP (d + 1) 146 11 [l0, l1] (psh v st) M' Q) := w_callS mC_146 d146_8 rfl rfl (Nat.le_of_ble_eq_true rfl) (by decide) rfl hl
theorem d146_11 : decode cX12_isGirl 11 = .ok (.ireturn, 1) := by decide +kernel
theorem k146_11 {d : Nat} {l0 l1 : Option PV} {M : Mem} {Q : Option PV → Mem → Prop} {x : Int32} (hx : x = 0 ∨ x = 1) : WP d 146 11 [l0, l1] ([vi x]) M Q = Q (some (vi x)) M := w_zret mC_146 d146_11 rfl hx
theorem d147_0 : decode cX12_isFrog 0 = .ok (.iload_n 1, 1) := by decide +kernel
theorem k147_0 {d : Nat} {x : Int32} {l0 : Option PV} {st : List PV} {M : Mem} {Q : Option PV → Mem → Prop} : WP d 147 0 [l0, some (vi x)] (st) M Q = WP d 147 1 [l0, some (vi x)] (vi x :: st) M Q := w1 mC_147 d147_0 rfl rfl
theorem d147_1 : decode cX12_isFrog 1 = .ok (.iconst 0, 1) := by decide +kernel
theorem k147_1 {d : Nat} {l0 l1 : Option PV} {st : List PV} {M : Mem} {Q : Option PV → Mem → Prop} : WP d 147 1 [l0, l1] (st) M Q = WP d 147 2 [l0, l1] (vi 0 :: st) M Q := w_iconst mC_147 d147_1 (by decide)
theorem d147_2 : decode cX12_isFrog 2 = .ok (.aload_n 0, 1) := by decide +kernel
theorem k147_2 {d x : Nat} {l1 : Option PV} {st : List PV} {M : Mem} {Q : Option PV → Mem → Prop} : WP d 147 2 [some (vr x), l1] (st) M Q = WP d 147 3 [some (vr x), l1] (vr x :: st) M Q := w1 mC_147 d147_2 rfl rfl
theorem d147_3 : decode cX12_isFrog 3 = .ok (.getfield 108, 3) := by decide +kernel
theorem k147_3 {d : Nat} {l0 l1 : Option PV} {st : List PV} {M : Mem} {Q : Option PV → Mem → Prop} {r : Nat} (hk : mK M r = 12) : WP d 147 3 [l0, l1] (vr r :: st) M Q = WP d 147 6 [l0, l1] (vi (mI M r 1) :: st) M Q := w_get mC_147 d147_3 fE_12_108 rfl (by rw [hk]; rfl)
theorem d147_6 : decode cX12_isFrog 6 = .ok (.iconst 1, 1) := by decide +kernel
theorem k147_6 {d : Nat} {l0 l1 : Option PV} {st : List PV} {M : Mem} {Q : Option PV → Mem → Prop} : WP d 147 6 [l0, l1] (st) M Q = WP d 147 7 [l0, l1] (vi 1 :: st) M Q := w_iconst mC_147 d147_6 (by decide)
theorem d147_7 : decode cX12_isFrog 7 = .ok (.isub, 1) := by decide +kernel
theorem k147_7 {d : Nat} {l0 l1 : Option PV} {st : List PV} {M : Mem} {Q : Option PV → Mem → Prop} {x y : Int32} : WP d 147 7 [l0, l1] (vi y :: vi x :: st) M Q = WP d 147 8 [l0, l1] (vi (x - y) :: st) M Q := w1 mC_147 d147_7 rfl rfl
theorem d147_8 : decode cX12_isFrog 8 = .ok (.invokestatic 104, 3) := by decide +kernel
theorem k147_8 {d : Nat} {l0 l1 : Option PV} {st : List PV} {M : Mem} {Q : Option PV → Mem → Prop} {a0 a1 a2 : Int32} (hl : szL st ≤ 8) : WP (d + 1) 147 8 [l0, l1] (vi a2 :: vi a1 :: vi a0 :: st) M Q = WP d 145 0 [some (vi a0), some (vi a1), some (vi a2)] [] M (fun v M' => WP (d + 1) 147 11 [l0, l1] (psh v st) M' Q) := w_callS mC_147 d147_8 rfl rfl (Nat.le_of_ble_eq_true rfl) (by decide) rfl hl
theorem d147_11 : decode cX12_isFrog 11 = .ok (.ireturn, 1) := by decide +kernel
theorem k147_11 {d : Nat} {l0 l1 : Option PV} {M : Mem} {Q : Option PV → Mem → Prop} {x : Int32} (hx : x = 0 ∨ x = 1) : WP d 147 11 [l0, l1] ([vi x]) M Q = Q (some (vi x)) M := w_zret mC_147 d147_11 rfl hx
theorem d148_0 : decode cX12_isPlace 0 = .ok (.iload_n 0, 1) := by decide +kernel
theorem k148_0 {d : Nat} {x : Int32} {st : List PV} {M : Mem} {Q : Option PV → Mem → Prop} : WP d 148 0 [some (vi x)] (st) M Q = WP d 148 1 [some (vi x)] (vi x :: st) M Q := w1 mC_148 d148_0 rfl rfl
theorem d148_1 : decode cX12_isPlace 1 = .ok (.iconst 0, 1) := by decide +kernel
theorem k148_1 {d : Nat} {l0 : Option PV} {st : List PV} {M : Mem} {Q : Option PV → Mem → Prop} : WP d 148 1 [l0] (st) M Q = WP d 148 2 [l0] (vi 0 :: st) M Q := w_iconst mC_148 d148_1 (by decide)
theorem d148_2 : decode cX12_isPlace 2 = .ok (.bipush 35, 2) := by decide +kernel
theorem k148_2 {d : Nat} {l0 : Option PV} {st : List PV} {M : Mem} {Q : Option PV → Mem → Prop} : WP d 148 2 [l0] (st) M Q = WP d 148 4 [l0] (vi 35 :: st) M Q := w_bipush mC_148 d148_2 (by decide)
theorem d148_4 : decode cX12_isPlace 4 = .ok (.invokestatic 104, 3) := by decide +kernel
theorem k148_4 {d : Nat} {l0 : Option PV} {st : List PV} {M : Mem} {Q : Option PV → Mem → Prop} {a0 a1 a2 : Int32} (hl : szL st ≤ 8) : WP (d + 1) 148 4 [l0] (vi a2 :: vi a1 :: vi a0 :: st) M Q = WP d 145 0 [some (vi a0), some (vi a1), some (vi a2)] [] M (fun v M' => WP (d + 1) 148 7 [l0] (psh v st) M' Q) := w_callS mC_148 d148_4 rfl rfl (Nat.le_of_ble_eq_true rfl) (by decide) rfl hl
theorem d148_7 : decode cX12_isPlace 7 = .ok (.ireturn, 1) := by decide +kernel
theorem k148_7 {d : Nat} {l0 : Option PV} {M : Mem} {Q : Option PV → Mem → Prop} {x : Int32} (hx : x = 0 ∨ x = 1) : WP d 148 7 [l0] ([vi x]) M Q = Q (some (vi x)) M := w_zret mC_148 d148_7 rfl hx
theorem d149_0 : decode cX12_isShelf 0 = .ok (.iload_n 0, 1) := by decide +kernel
theorem k149_0 {d : Nat} {x : Int32} {st : List PV} {M : Mem} {Q : Option PV → Mem → Prop} : WP d 149 0 [some (vi x)] (st) M Q = WP d 149 1 [some (vi x)] (vi x :: st) M Q := w1 mC_149 d149_0 rfl rfl
theorem d149_1 : decode cX12_isShelf 1 = .ok (.iconst 0, 1) := by decide +kernel
theorem k149_1 {d : Nat} {l0 : Option PV} {st : List PV} {M : Mem} {Q : Option PV → Mem → Prop} : WP d 149 1 [l0] (st) M Q = WP d 149 2 [l0] (vi 0 :: st) M Q := w_iconst mC_149 d149_1 (by decide)
theorem d149_2 : decode cX12_isShelf 2 = .ok (.iconst 5, 1) := by decide +kernel
theorem k149_2 {d : Nat} {l0 : Option PV} {st : List PV} {M : Mem} {Q : Option PV → Mem → Prop} : WP d 149 2 [l0] (st) M Q = WP d 149 3 [l0] (vi 5 :: st) M Q := w_iconst mC_149 d149_2 (by decide)
theorem d149_3 : decode cX12_isShelf 3 = .ok (.invokestatic 104, 3) := by decide +kernel
theorem k149_3 {d : Nat} {l0 : Option PV} {st : List PV} {M : Mem} {Q : Option PV → Mem → Prop} {a0 a1 a2 : Int32} (hl : szL st ≤ 8) : WP (d + 1) 149 3 [l0] (vi a2 :: vi a1 :: vi a0 :: st) M Q = WP d 145 0 [some (vi a0), some (vi a1), some (vi a2)] [] M (fun v M' => WP (d + 1) 149 6 [l0] (psh v st) M' Q) := w_callS mC_149 d149_3 rfl rfl (Nat.le_of_ble_eq_true rfl) (by decide) rfl hl
theorem d149_6 : decode cX12_isShelf 6 = .ok (.ireturn, 1) := by decide +kernel
theorem k149_6 {d : Nat} {l0 : Option PV} {M : Mem} {Q : Option PV → Mem → Prop} {x : Int32} (hx : x = 0 ∨ x = 1) : WP d 149 6 [l0] ([vi x]) M Q = Q (some (vi x)) M := w_zret mC_149 d149_6 rfl hx
theorem d150_0 : decode cX12_girl 0 = .ok (.iload_n 1, 1) := by decide +kernel
theorem k150_0 {d : Nat} {x : Int32} {l0 : Option PV} {st : List PV} {M : Mem} {Q : Option PV → Mem → Prop} : WP d 150 0 [l0, some (vi x)] (st) M Q = WP d 150 1 [l0, some (vi x)] (vi x :: st) M Q := w1 mC_150 d150_0 rfl rfl
theorem d150_1 : decode cX12_girl 1 = .ok (.invokestatic 111, 3) := by decide +kernel
theorem k150_1 {d : Nat} {l0 l1 : Option PV} {st : List PV} {M : Mem} {Q : Option PV → Mem → Prop} {a0 : Int32} (hl : szL st ≤ 8) : WP (d + 1) 150 1 [l0, l1] (vi a0 :: st) M Q = WP d 148 0 [some (vi a0)] [] M (fun v M' => WP (d + 1) 150 4 [l0, l1] (psh v st) M' Q) := w_callS mC_150 d150_1 rfl rfl (Nat.le_of_ble_eq_true rfl) (by decide) rfl hl
theorem d150_4 : decode cX12_girl 4 = .ok (.ifCond .ne 5, 3) := by decide +kernel
theorem k150_4 {d : Nat} {l0 l1 : Option PV} {st : List PV} {M : Mem} {Q : Option PV → Mem → Prop} {x : Int32} : WP d 150 4 [l0, l1] (vi x :: st) M Q = (if x = 0 then WP d 150 7 [l0, l1] (st) M Q else WP d 150 9 [l0, l1] (st) M Q) := w_if_ne mC_150 d150_4 (by decide)
theorem d150_7 : decode cX12_girl 7 = .ok (.iconst (-1), 1) := by decide +kernel
theorem k150_7 {d : Nat} {l0 l1 : Option PV} {st : List PV} {M : Mem} {Q : Option PV → Mem → Prop} : WP d 150 7 [l0, l1] (st) M Q = WP d 150 8 [l0, l1] (vi (-1) :: st) M Q := w_iconst mC_150 d150_7 (by decide)
theorem d150_8 : decode cX12_girl 8 = .ok (.ireturn, 1) := by decide +kernel
theorem k150_8 {d : Nat} {l0 l1 : Option PV} {M : Mem} {Q : Option PV → Mem → Prop} {x : Int32} : WP d 150 8 [l0, l1] ([vi x]) M Q = Q (some (vi x)) M := w_iret mC_150 d150_8 rfl
theorem d150_9 : decode cX12_girl 9 = .ok (.aload_n 0, 1) := by decide +kernel
theorem k150_9 {d x : Nat} {l1 : Option PV} {st : List PV} {M : Mem} {Q : Option PV → Mem → Prop} : WP d 150 9 [some (vr x), l1] (st) M Q = WP d 150 10 [some (vr x), l1] (vr x :: st) M Q := w1 mC_150 d150_9 rfl rfl
theorem d150_10 : decode cX12_girl 10 = .ok (.getfield 100, 3) := by decide +kernel
theorem k150_10 {d : Nat} {l0 l1 : Option PV} {st : List PV} {M : Mem} {Q : Option PV → Mem → Prop} {r : Nat} (hk : mK M r = 12) : WP d 150 10 [l0, l1] (vr r :: st) M Q = WP d 150 13 [l0, l1] (vi (mI M r 0) :: st) M Q := w_get mC_150 d150_10 fE_12_100 rfl (by rw [hk]; rfl)
theorem d150_13 : decode cX12_girl 13 = .ok (.bipush 8, 2) := by decide +kernel
theorem k150_13 {d : Nat} {l0 l1 : Option PV} {st : List PV} {M : Mem} {Q : Option PV → Mem → Prop} : WP d 150 13 [l0, l1] (st) M Q = WP d 150 15 [l0, l1] (vi 8 :: st) M Q := w_bipush mC_150 d150_13 (by decide)
theorem d150_15 : decode cX12_girl 15 = .ok (.if_icmp .ne 6, 3) := by decide +kernel
theorem k150_15 {d : Nat} {l0 l1 : Option PV} {st : List PV} {M : Mem} {Q : Option PV → Mem → Prop} {x y : Int32} : WP d 150 15 [l0, l1] (vi y :: vi x :: st) M Q = (if x = y then WP d 150 18 [l0, l1] (st) M Q else WP d 150 21 [l0, l1] (st) M Q) := w_ic_ne mC_150 d150_15 (by decide)
theorem d150_18 : decode cX12_girl 18 = .ok (.bipush (-3), 2) := by decide +kernel
theorem k150_18 {d : Nat} {l0 l1 : Option PV} {st : List PV} {M : Mem} {Q : Option PV → Mem → Prop} : WP d 150 18 [l0, l1] (st) M Q = WP d 150 20 [l0, l1] (vi (-3) :: st) M Q := w_bipush mC_150 d150_18 (by decide)
theorem d150_20 : decode cX12_girl 20 = .ok (.ireturn, 1) := by decide +kernel
theorem k150_20 {d : Nat} {l0 l1 : Option PV} {M : Mem} {Q : Option PV → Mem → Prop} {x : Int32} : WP d 150 20 [l0, l1] ([vi x]) M Q = Q (some (vi x)) M := w_iret mC_150 d150_20 rfl
theorem d150_21 : decode cX12_girl 21 = .ok (.aload_n 0, 1) := by decide +kernel
theorem k150_21 {d x : Nat} {l1 : Option PV} {st : List PV} {M : Mem} {Q : Option PV → Mem → Prop} : WP d 150 21 [some (vr x), l1] (st) M Q = WP d 150 22 [some (vr x), l1] (vr x :: st) M Q := w1 mC_150 d150_21 rfl rfl
theorem d150_22 : decode cX12_girl 22 = .ok (.getfield 9, 3) := by decide +kernel
theorem k150_22 {d : Nat} {l0 l1 : Option PV} {st : List PV} {M : Mem} {Q : Option PV → Mem → Prop} {r : Nat} (hk : mK M r = 12) : WP d 150 22 [l0, l1] (vr r :: st) M Q = WP d 150 25 [l0, l1] (vr (mR M r 2) :: st) M Q := w_getr mC_150 d150_22 fE_12_9 rfl (by rw [hk]; rfl)
theorem d150_25 : decode cX12_girl 25 = .ok (.aload_n 0, 1) := by decide +kernel
theorem k150_25 {d x : Nat} {l1 : Option PV} {st : List PV} {M : Mem} {Q : Option PV → Mem → Prop} : WP d 150 25 [some (vr x), l1] (st) M Q = WP d 150 26 [some (vr x), l1] (vr x :: st) M Q := w1 mC_150 d150_25 rfl rfl
theorem d150_26 : decode cX12_girl 26 = .ok (.getfield 100, 3) := by decide +kernel
theorem k150_26 {d : Nat} {l0 l1 : Option PV} {st : List PV} {M : Mem} {Q : Option PV → Mem → Prop} {r : Nat} (hk : mK M r = 12) : WP d 150 26 [l0, l1] (vr r :: st) M Q = WP d 150 29 [l0, l1] (vi (mI M r 0) :: st) M Q := w_get mC_150 d150_26 fE_12_100 rfl (by rw [hk]; rfl)
theorem d150_29 : decode cX12_girl 29 = .ok (.iload_n 1, 1) := by decide +kernel
theorem k150_29 {d : Nat} {x : Int32} {l0 : Option PV} {st : List PV} {M : Mem} {Q : Option PV → Mem → Prop} : WP d 150 29 [l0, some (vi x)] (st) M Q = WP d 150 30 [l0, some (vi x)] (vi x :: st) M Q := w1 mC_150 d150_29 rfl rfl
theorem d150_30 : decode cX12_girl 30 = .ok (.iastore, 1) := by decide +kernel
theorem k150_30 {d : Nat} {l0 l1 : Option PV} {st : List PV} {M : Mem} {Q : Option PV → Mem → Prop} {r : Nat} {j x : Int32} (hk : mK M r = 13) (hj : inb j (mN M r)) (h1 : r ≠ 1) : WP d 150 30 [l0, l1] (vi x :: vi j :: vr r :: st) M Q = WP d 150 31 [l0, l1] (st) (sI M r (ix j) x) Q := w_iast mC_150 d150_30 hk hj h1
theorem d150_31 : decode cX12_girl 31 = .ok (.aload_n 0, 1) := by decide +kernel
theorem k150_31 {d x : Nat} {l1 : Option PV} {st : List PV} {M : Mem} {Q : Option PV → Mem → Prop} : WP d 150 31 [some (vr x), l1] (st) M Q = WP d 150 32 [some (vr x), l1] (vr x :: st) M Q := w1 mC_150 d150_31 rfl rfl
theorem d150_32 : decode cX12_girl 32 = .ok (.getfield 9, 3) := by decide +kernel
theorem k150_32 {d : Nat} {l0 l1 : Option PV} {st : List PV} {M : Mem} {Q : Option PV → Mem → Prop} {r : Nat} (hk : mK M r = 12) : WP d 150 32 [l0, l1] (vr r :: st) M Q = WP d 150 35 [l0, l1] (vr (mR M r 2) :: st) M Q := w_getr mC_150 d150_32 fE_12_9 rfl (by rw [hk]; rfl)
theorem d150_35 : decode cX12_girl 35 = .ok (.bipush 8, 2) := by decide +kernel
theorem k150_35 {d : Nat} {l0 l1 : Option PV} {st : List PV} {M : Mem} {Q : Option PV → Mem → Prop} : WP d 150 35 [l0, l1] (st) M Q = WP d 150 37 [l0, l1] (vi 8 :: st) M Q := w_bipush mC_150 d150_35 (by decide)
theorem d150_37 : decode cX12_girl 37 = .ok (.aload_n 0, 1) := by decide +kernel
theorem k150_37 {d x : Nat} {l1 : Option PV} {st : List PV} {M : Mem} {Q : Option PV → Mem → Prop} : WP d 150 37 [some (vr x), l1] (st) M Q = WP d 150 38 [some (vr x), l1] (vr x :: st) M Q := w1 mC_150 d150_37 rfl rfl
theorem d150_38 : decode cX12_girl 38 = .ok (.getfield 100, 3) := by decide +kernel
theorem k150_38 {d : Nat} {l0 l1 : Option PV} {st : List PV} {M : Mem} {Q : Option PV → Mem → Prop} {r : Nat} (hk : mK M r = 12) : WP d 150 38 [l0, l1] (vr r :: st) M Q = WP d 150 41 [l0, l1] (vi (mI M r 0) :: st) M Q := w_get mC_150 d150_38 fE_12_100 rfl (by rw [hk]; rfl)
theorem d150_41 : decode cX12_girl 41 = .ok (.iadd, 1) := by decide +kernel
theorem k150_41 {d : Nat} {l0 l1 : Option PV} {st : List PV} {M : Mem} {Q : Option PV → Mem → Prop} {x y : Int32} : WP d 150 41 [l0, l1] (vi y :: vi x :: st) M Q = WP d 150 42 [l0, l1] (vi (x + y) :: st) M Q := w1 mC_150 d150_41 rfl rfl
theorem d150_42 : decode cX12_girl 42 = .ok (.bipush 60, 2) := by decide +kernel
theorem k150_42 {d : Nat} {l0 l1 : Option PV} {st : List PV} {M : Mem} {Q : Option PV → Mem → Prop} : WP d 150 42 [l0, l1] (st) M Q = WP d 150 44 [l0, l1] (vi 60 :: st) M Q := w_bipush mC_150 d150_42 (by decide)
theorem d150_44 : decode cX12_girl 44 = .ok (.iastore, 1) := by decide +kernel
theorem k150_44 {d : Nat} {l0 l1 : Option PV} {st : List PV} {M : Mem} {Q : Option PV → Mem → Prop} {r : Nat} {j x : Int32} (hk : mK M r = 13) (hj : inb j (mN M r)) (h1 : r ≠ 1) : WP d 150 44 [l0, l1] (vi x :: vi j :: vr r :: st) M Q = WP d 150 45 [l0, l1] (st) (sI M r (ix j) x) Q := w_iast mC_150 d150_44 hk hj h1
theorem d150_45 : decode cX12_girl 45 = .ok (.aload_n 0, 1) := by decide +kernel
theorem k150_45 {d x : Nat} {l1 : Option PV} {st : List PV} {M : Mem} {Q : Option PV → Mem → Prop} : WP d 150 45 [some (vr x), l1] (st) M Q = WP d 150 46 [some (vr x), l1] (vr x :: st) M Q := w1 mC_150 d150_45 rfl rfl
theorem d150_46 : decode cX12_girl 46 = .ok (.dup, 1) := by decide +kernel
theorem k150_46 {d : Nat} {l0 l1 : Option PV} {st : List PV} {M : Mem} {Q : Option PV → Mem → Prop} {x : Nat} : WP d 150 46 [l0, l1] (vr x :: st) M Q = WP d 150 47 [l0, l1] (vr x :: vr x :: st) M Q := w1 mC_150 d150_46 rfl rfl
theorem k150_46i {d : Nat} {l0 l1 : Option PV} {st : List PV} {M : Mem} {Q : Option PV → Mem → Prop} {x : Int32} : WP d 150 46 [l0, l1] (vi x :: st) M Q = WP d 150 47 [l0, l1] (vi x :: vi x :: st) M Q := w1 mC_150 d150_46 rfl rfl
theorem d150_47 : decode cX12_girl 47 = .ok (.getfield 100, 3) := by decide +kernel
theorem k150_47 {d : Nat} {l0 l1 : Option PV} {st : List PV} {M : Mem} {Q : Option PV → Mem → Prop} {r : Nat} (hk : mK M r = 12) : WP d 150 47 [l0, l1] (vr r :: st) M Q = WP d 150 50 [l0, l1] (vi (mI M r 0) :: st) M Q := w_get mC_150 d150_47 fE_12_100 rfl (by rw [hk]; rfl)
theorem d150_50 : decode cX12_girl 50 = .ok (.dup_x1, 1) := by decide +kernel
theorem k150_50 {d : Nat} {l0 l1 : Option PV} {st : List PV} {M : Mem} {Q : Option PV → Mem → Prop} {a : Int32} {b : Nat} : WP d 150 50 [l0, l1] (vi a :: vr b :: st) M Q = WP d 150 51 [l0, l1] (vi a :: vr b :: vi a :: st) M Q := w1 mC_150 d150_50 rfl rfl
theorem d150_51 : decode cX12_girl 51 = .ok (.iconst 1, 1) := by decide +kernel
theorem k150_51 {d : Nat} {l0 l1 : Option PV} {st : List PV} {M : Mem} {Q : Option PV → Mem → Prop} : WP d 150 51 [l0, l1] (st) M Q = WP d 150 52 [l0, l1] (vi 1 :: st) M Q := w_iconst mC_150 d150_51 (by decide)
theorem d150_52 : decode cX12_girl 52 = .ok (.iadd, 1) := by decide +kernel
theorem k150_52 {d : Nat} {l0 l1 : Option PV} {st : List PV} {M : Mem} {Q : Option PV → Mem → Prop} {x y : Int32} : WP d 150 52 [l0, l1] (vi y :: vi x :: st) M Q = WP d 150 53 [l0, l1] (vi (x + y) :: st) M Q := w1 mC_150 d150_52 rfl rfl
theorem d150_53 : decode cX12_girl 53 = .ok (.putfield 100, 3) := by decide +kernel
theorem k150_53 {d : Nat} {l0 l1 : Option PV} {st : List PV} {M : Mem} {Q : Option PV → Mem → Prop} {r : Nat} {x : Int32} (hk : mK M r = 12) : WP d 150 53 [l0, l1] (vi x :: vr r :: st) M Q = WP d 150 56 [l0, l1] (st) (sI M r 0 x) Q := w_put mC_150 d150_53 fE_12_100 (by decide +kernel) (by rw [hk]; rfl)
theorem d150_56 : decode cX12_girl 56 = .ok (.ireturn, 1) := by decide +kernel
theorem k150_56 {d : Nat} {l0 l1 : Option PV} {M : Mem} {Q : Option PV → Mem → Prop} {x : Int32} : WP d 150 56 [l0, l1] ([vi x]) M Q = Q (some (vi x)) M := w_iret mC_150 d150_56 rfl
theorem d151_0 : decode cX12_newFrog 0 = .ok (.aload_n 0, 1) := by decide +kernel
theorem k151_0 {d x : Nat} {l1 l2 l3 l4 : Option PV} {st : List PV} {M : Mem} {Q : Option PV → Mem → Prop} : WP d 151 0 [some (vr x), l1, l2, l3, l4] (st) M Q = WP d 151 1 [some (vr x), l1, l2, l3, l4] (vr x :: st) M Q := w1 mC_151 d151_0 rfl rfl
theorem d151_1 : decode cX12_newFrog 1 = .ok (.getfield 9, 3) := by decide +kernel
theorem k151_1 {d : Nat} {l0 l1 l2 l3 l4 : Option PV} {st : List PV} {M : Mem} {Q : Option PV → Mem → Prop} {r : Nat} (hk : mK M r = 12) : WP d 151 1 [l0, l1, l2, l3, l4] (vr r :: st) M Q = WP d 151 4 [l0, l1, l2, l3, l4] (vr (mR M r 2) :: st) M Q := w_getr mC_151 d151_1 fE_12_9 rfl (by rw [hk]; rfl)
theorem d151_4 : decode cX12_newFrog 4 = .ok (.bipush 16, 2) := by decide +kernel
theorem k151_4 {d : Nat} {l0 l1 l2 l3 l4 : Option PV} {st : List PV} {M : Mem} {Q : Option PV → Mem → Prop} : WP d 151 4 [l0, l1, l2, l3, l4] (st) M Q = WP d 151 6 [l0, l1, l2, l3, l4] (vi 16 :: st) M Q := w_bipush mC_151 d151_4 (by decide)
theorem d151_6 : decode cX12_newFrog 6 = .ok (.aload_n 0, 1) := by decide +kernel
theorem k151_6 {d x : Nat} {l1 l2 l3 l4 : Option PV} {st : List PV} {M : Mem} {Q : Option PV → Mem → Prop} : WP d 151 6 [some (vr x), l1, l2, l3, l4] (st) M Q = WP d 151 7 [some (vr x), l1, l2, l3, l4] (vr x :: st) M Q := w1 mC_151 d151_6 rfl rfl
theorem d151_7 : decode cX12_newFrog 7 = .ok (.getfield 108, 3) := by decide +kernel
theorem k151_7 {d : Nat} {l0 l1 l2 l3 l4 : Option PV} {st : List PV} {M : Mem} {Q : Option PV → Mem → Prop} {r : Nat} (hk : mK M r = 12) : WP d 151 7 [l0, l1, l2, l3, l4] (vr r :: st) M Q = WP d 151 10 [l0, l1, l2, l3, l4] (vi (mI M r 1) :: st) M Q := w_get mC_151 d151_7 fE_12_108 rfl (by rw [hk]; rfl)
theorem d151_10 : decode cX12_newFrog 10 = .ok (.iadd, 1) := by decide +kernel
theorem k151_10 {d : Nat} {l0 l1 l2 l3 l4 : Option PV} {st : List PV} {M : Mem} {Q : Option PV → Mem → Prop} {x y : Int32} : WP d 151 10 [l0, l1, l2, l3, l4] (vi y :: vi x :: st) M Q = WP d 151 11 [l0, l1, l2, l3, l4] (vi (x + y) :: st) M Q := w1 mC_151 d151_10 rfl rfl
theorem d151_11 : decode cX12_newFrog 11 = .ok (.iload_n 1, 1) := by decide +kernel
theorem k151_11 {d : Nat} {x : Int32} {l0 l2 l3 l4 : Option PV} {st : List PV} {M : Mem} {Q : Option PV → Mem → Prop} : WP d 151 11 [l0, some (vi x), l2, l3, l4] (st) M Q = WP d 151 12 [l0, some (vi x), l2, l3, l4] (vi x :: st) M Q := w1 mC_151 d151_11 rfl rfl
theorem d151_12 : decode cX12_newFrog 12 = .ok (.iastore, 1) := by decide +kernel
theorem k151_12 {d : Nat} {l0 l1 l2 l3 l4 : Option PV} {st : List PV} {M : Mem} {Q : Option PV → Mem → Prop} {r : Nat} {j x : Int32} (hk : mK M r = 13) (hj : inb j (mN M r)) (h1 : r ≠ 1) : WP d 151 12 [l0, l1, l2, l3, l4] (vi x :: vi j :: vr r :: st) M Q = WP d 151 13 [l0, l1, l2, l3, l4] (st) (sI M r (ix j) x) Q := w_iast mC_151 d151_12 hk hj h1
theorem d151_13 : decode cX12_newFrog 13 = .ok (.aload_n 0, 1) := by decide +kernel
theorem k151_13 {d x : Nat} {l1 l2 l3 l4 : Option PV} {st : List PV} {M : Mem} {Q : Option PV → Mem → Prop} : WP d 151 13 [some (vr x), l1, l2, l3, l4] (st) M Q = WP d 151 14 [some (vr x), l1, l2, l3, l4] (vr x :: st) M Q := w1 mC_151 d151_13 rfl rfl
theorem d151_14 : decode cX12_newFrog 14 = .ok (.getfield 9, 3) := by decide +kernel
theorem k151_14 {d : Nat} {l0 l1 l2 l3 l4 : Option PV} {st : List PV} {M : Mem} {Q : Option PV → Mem → Prop} {r : Nat} (hk : mK M r = 12) : WP d 151 14 [l0, l1, l2, l3, l4] (vr r :: st) M Q = WP d 151 17 [l0, l1, l2, l3, l4] (vr (mR M r 2) :: st) M Q := w_getr mC_151 d151_14 fE_12_9 rfl (by rw [hk]; rfl)
theorem d151_17 : decode cX12_newFrog 17 = .ok (.bipush 24, 2) := by decide +kernel
theorem k151_17 {d : Nat} {l0 l1 l2 l3 l4 : Option PV} {st : List PV} {M : Mem} {Q : Option PV → Mem → Prop} : WP d 151 17 [l0, l1, l2, l3, l4] (st) M Q = WP d 151 19 [l0, l1, l2, l3, l4] (vi 24 :: st) M Q := w_bipush mC_151 d151_17 (by decide)
theorem d151_19 : decode cX12_newFrog 19 = .ok (.aload_n 0, 1) := by decide +kernel
theorem k151_19 {d x : Nat} {l1 l2 l3 l4 : Option PV} {st : List PV} {M : Mem} {Q : Option PV → Mem → Prop} : WP d 151 19 [some (vr x), l1, l2, l3, l4] (st) M Q = WP d 151 20 [some (vr x), l1, l2, l3, l4] (vr x :: st) M Q := w1 mC_151 d151_19 rfl rfl
theorem d151_20 : decode cX12_newFrog 20 = .ok (.getfield 108, 3) := by decide +kernel
theorem k151_20 {d : Nat} {l0 l1 l2 l3 l4 : Option PV} {st : List PV} {M : Mem} {Q : Option PV → Mem → Prop} {r : Nat} (hk : mK M r = 12) : WP d 151 20 [l0, l1, l2, l3, l4] (vr r :: st) M Q = WP d 151 23 [l0, l1, l2, l3, l4] (vi (mI M r 1) :: st) M Q := w_get mC_151 d151_20 fE_12_108 rfl (by rw [hk]; rfl)
theorem d151_23 : decode cX12_newFrog 23 = .ok (.iadd, 1) := by decide +kernel
theorem k151_23 {d : Nat} {l0 l1 l2 l3 l4 : Option PV} {st : List PV} {M : Mem} {Q : Option PV → Mem → Prop} {x y : Int32} : WP d 151 23 [l0, l1, l2, l3, l4] (vi y :: vi x :: st) M Q = WP d 151 24 [l0, l1, l2, l3, l4] (vi (x + y) :: st) M Q := w1 mC_151 d151_23 rfl rfl
theorem d151_24 : decode cX12_newFrog 24 = .ok (.iload_n 2, 1) := by decide +kernel
theorem k151_24 {d : Nat} {x : Int32} {l0 l1 l3 l4 : Option PV} {st : List PV} {M : Mem} {Q : Option PV → Mem → Prop} : WP d 151 24 [l0, l1, some (vi x), l3, l4] (st) M Q = WP d 151 25 [l0, l1, some (vi x), l3, l4] (vi x :: st) M Q := w1 mC_151 d151_24 rfl rfl
theorem d151_25 : decode cX12_newFrog 25 = .ok (.iastore, 1) := by decide +kernel
theorem k151_25 {d : Nat} {l0 l1 l2 l3 l4 : Option PV} {st : List PV} {M : Mem} {Q : Option PV → Mem → Prop} {r : Nat} {j x : Int32} (hk : mK M r = 13) (hj : inb j (mN M r)) (h1 : r ≠ 1) : WP d 151 25 [l0, l1, l2, l3, l4] (vi x :: vi j :: vr r :: st) M Q = WP d 151 26 [l0, l1, l2, l3, l4] (st) (sI M r (ix j) x) Q := w_iast mC_151 d151_25 hk hj h1
theorem d151_26 : decode cX12_newFrog 26 = .ok (.aload_n 0, 1) := by decide +kernel
theorem k151_26 {d x : Nat} {l1 l2 l3 l4 : Option PV} {st : List PV} {M : Mem} {Q : Option PV → Mem → Prop} : WP d 151 26 [some (vr x), l1, l2, l3, l4] (st) M Q = WP d 151 27 [some (vr x), l1, l2, l3, l4] (vr x :: st) M Q := w1 mC_151 d151_26 rfl rfl
theorem d151_27 : decode cX12_newFrog 27 = .ok (.getfield 9, 3) := by decide +kernel
theorem k151_27 {d : Nat} {l0 l1 l2 l3 l4 : Option PV} {st : List PV} {M : Mem} {Q : Option PV → Mem → Prop} {r : Nat} (hk : mK M r = 12) : WP d 151 27 [l0, l1, l2, l3, l4] (vr r :: st) M Q = WP d 151 30 [l0, l1, l2, l3, l4] (vr (mR M r 2) :: st) M Q := w_getr mC_151 d151_27 fE_12_9 rfl (by rw [hk]; rfl)
theorem d151_30 : decode cX12_newFrog 30 = .ok (.bipush 32, 2) := by decide +kernel
theorem k151_30 {d : Nat} {l0 l1 l2 l3 l4 : Option PV} {st : List PV} {M : Mem} {Q : Option PV → Mem → Prop} : WP d 151 30 [l0, l1, l2, l3, l4] (st) M Q = WP d 151 32 [l0, l1, l2, l3, l4] (vi 32 :: st) M Q := w_bipush mC_151 d151_30 (by decide)
theorem d151_32 : decode cX12_newFrog 32 = .ok (.aload_n 0, 1) := by decide +kernel
theorem k151_32 {d x : Nat} {l1 l2 l3 l4 : Option PV} {st : List PV} {M : Mem} {Q : Option PV → Mem → Prop} : WP d 151 32 [some (vr x), l1, l2, l3, l4] (st) M Q = WP d 151 33 [some (vr x), l1, l2, l3, l4] (vr x :: st) M Q := w1 mC_151 d151_32 rfl rfl
theorem d151_33 : decode cX12_newFrog 33 = .ok (.getfield 108, 3) := by decide +kernel
theorem k151_33 {d : Nat} {l0 l1 l2 l3 l4 : Option PV} {st : List PV} {M : Mem} {Q : Option PV → Mem → Prop} {r : Nat} (hk : mK M r = 12) : WP d 151 33 [l0, l1, l2, l3, l4] (vr r :: st) M Q = WP d 151 36 [l0, l1, l2, l3, l4] (vi (mI M r 1) :: st) M Q := w_get mC_151 d151_33 fE_12_108 rfl (by rw [hk]; rfl)
theorem d151_36 : decode cX12_newFrog 36 = .ok (.iadd, 1) := by decide +kernel
theorem k151_36 {d : Nat} {l0 l1 l2 l3 l4 : Option PV} {st : List PV} {M : Mem} {Q : Option PV → Mem → Prop} {x y : Int32} : WP d 151 36 [l0, l1, l2, l3, l4] (vi y :: vi x :: st) M Q = WP d 151 37 [l0, l1, l2, l3, l4] (vi (x + y) :: st) M Q := w1 mC_151 d151_36 rfl rfl
theorem d151_37 : decode cX12_newFrog 37 = .ok (.iload_n 3, 1) := by decide +kernel
theorem k151_37 {d : Nat} {x : Int32} {l0 l1 l2 l4 : Option PV} {st : List PV} {M : Mem} {Q : Option PV → Mem → Prop} : WP d 151 37 [l0, l1, l2, some (vi x), l4] (st) M Q = WP d 151 38 [l0, l1, l2, some (vi x), l4] (vi x :: st) M Q := w1 mC_151 d151_37 rfl rfl
theorem d151_38 : decode cX12_newFrog 38 = .ok (.iastore, 1) := by decide +kernel
theorem k151_38 {d : Nat} {l0 l1 l2 l3 l4 : Option PV} {st : List PV} {M : Mem} {Q : Option PV → Mem → Prop} {r : Nat} {j x : Int32} (hk : mK M r = 13) (hj : inb j (mN M r)) (h1 : r ≠ 1) : WP d 151 38 [l0, l1, l2, l3, l4] (vi x :: vi j :: vr r :: st) M Q = WP d 151 39 [l0, l1, l2, l3, l4] (st) (sI M r (ix j) x) Q := w_iast mC_151 d151_38 hk hj h1
theorem d151_39 : decode cX12_newFrog 39 = .ok (.aload_n 0, 1) := by decide +kernel
theorem k151_39 {d x : Nat} {l1 l2 l3 l4 : Option PV} {st : List PV} {M : Mem} {Q : Option PV → Mem → Prop} : WP d 151 39 [some (vr x), l1, l2, l3, l4] (st) M Q = WP d 151 40 [some (vr x), l1, l2, l3, l4] (vr x :: st) M Q := w1 mC_151 d151_39 rfl rfl
theorem d151_40 : decode cX12_newFrog 40 = .ok (.getfield 9, 3) := by decide +kernel
theorem k151_40 {d : Nat} {l0 l1 l2 l3 l4 : Option PV} {st : List PV} {M : Mem} {Q : Option PV → Mem → Prop} {r : Nat} (hk : mK M r = 12) : WP d 151 40 [l0, l1, l2, l3, l4] (vr r :: st) M Q = WP d 151 43 [l0, l1, l2, l3, l4] (vr (mR M r 2) :: st) M Q := w_getr mC_151 d151_40 fE_12_9 rfl (by rw [hk]; rfl)
theorem d151_43 : decode cX12_newFrog 43 = .ok (.bipush 40, 2) := by decide +kernel
theorem k151_43 {d : Nat} {l0 l1 l2 l3 l4 : Option PV} {st : List PV} {M : Mem} {Q : Option PV → Mem → Prop} : WP d 151 43 [l0, l1, l2, l3, l4] (st) M Q = WP d 151 45 [l0, l1, l2, l3, l4] (vi 40 :: st) M Q := w_bipush mC_151 d151_43 (by decide)
theorem d151_45 : decode cX12_newFrog 45 = .ok (.aload_n 0, 1) := by decide +kernel
theorem k151_45 {d x : Nat} {l1 l2 l3 l4 : Option PV} {st : List PV} {M : Mem} {Q : Option PV → Mem → Prop} : WP d 151 45 [some (vr x), l1, l2, l3, l4] (st) M Q = WP d 151 46 [some (vr x), l1, l2, l3, l4] (vr x :: st) M Q := w1 mC_151 d151_45 rfl rfl
theorem d151_46 : decode cX12_newFrog 46 = .ok (.getfield 108, 3) := by decide +kernel
theorem k151_46 {d : Nat} {l0 l1 l2 l3 l4 : Option PV} {st : List PV} {M : Mem} {Q : Option PV → Mem → Prop} {r : Nat} (hk : mK M r = 12) : WP d 151 46 [l0, l1, l2, l3, l4] (vr r :: st) M Q = WP d 151 49 [l0, l1, l2, l3, l4] (vi (mI M r 1) :: st) M Q := w_get mC_151 d151_46 fE_12_108 rfl (by rw [hk]; rfl)
theorem d151_49 : decode cX12_newFrog 49 = .ok (.iadd, 1) := by decide +kernel
theorem k151_49 {d : Nat} {l0 l1 l2 l3 l4 : Option PV} {st : List PV} {M : Mem} {Q : Option PV → Mem → Prop} {x y : Int32} : WP d 151 49 [l0, l1, l2, l3, l4] (vi y :: vi x :: st) M Q = WP d 151 50 [l0, l1, l2, l3, l4] (vi (x + y) :: st) M Q := w1 mC_151 d151_49 rfl rfl
theorem d151_50 : decode cX12_newFrog 50 = .ok (.iload 4, 2) := by decide +kernel
theorem k151_50 {d : Nat} {x : Int32} {l0 l1 l2 l3 : Option PV} {st : List PV} {M : Mem} {Q : Option PV → Mem → Prop} : WP d 151 50 [l0, l1, l2, l3, some (vi x)] (st) M Q = WP d 151 52 [l0, l1, l2, l3, some (vi x)] (vi x :: st) M Q := w1 mC_151 d151_50 rfl rfl
theorem d151_52 : decode cX12_newFrog 52 = .ok (.iastore, 1) := by decide +kernel
theorem k151_52 {d : Nat} {l0 l1 l2 l3 l4 : Option PV} {st : List PV} {M : Mem} {Q : Option PV → Mem → Prop} {r : Nat} {j x : Int32} (hk : mK M r = 13) (hj : inb j (mN M r)) (h1 : r ≠ 1) : WP d 151 52 [l0, l1, l2, l3, l4] (vi x :: vi j :: vr r :: st) M Q = WP d 151 53 [l0, l1, l2, l3, l4] (st) (sI M r (ix j) x) Q := w_iast mC_151 d151_52 hk hj h1
theorem d151_53 : decode cX12_newFrog 53 = .ok (.aload_n 0, 1) := by decide +kernel
theorem k151_53 {d x : Nat} {l1 l2 l3 l4 : Option PV} {st : List PV} {M : Mem} {Q : Option PV → Mem → Prop} : WP d 151 53 [some (vr x), l1, l2, l3, l4] (st) M Q = WP d 151 54 [some (vr x), l1, l2, l3, l4] (vr x :: st) M Q := w1 mC_151 d151_53 rfl rfl
theorem d151_54 : decode cX12_newFrog 54 = .ok (.dup, 1) := by decide +kernel
theorem k151_54 {d : Nat} {l0 l1 l2 l3 l4 : Option PV} {st : List PV} {M : Mem} {Q : Option PV → Mem → Prop} {x : Nat} : WP d 151 54 [l0, l1, l2, l3, l4] (vr x :: st) M Q = WP d 151 55 [l0, l1, l2, l3, l4] (vr x :: vr x :: st) M Q := w1 mC_151 d151_54 rfl rfl
theorem k151_54i {d : Nat} {l0 l1 l2 l3 l4 : Option PV} {st : List PV} {M : Mem} {Q : Option PV → Mem → Prop} {x : Int32} : WP d 151 54 [l0, l1, l2, l3, l4] (vi x :: st) M Q = WP d 151 55 [l0, l1, l2, l3, l4] (vi x :: vi x :: st) M Q := w1 mC_151 d151_54 rfl rfl
theorem d151_55 : decode cX12_newFrog 55 = .ok (.getfield 108, 3) := by decide +kernel
theorem k151_55 {d : Nat} {l0 l1 l2 l3 l4 : Option PV} {st : List PV} {M : Mem} {Q : Option PV → Mem → Prop} {r : Nat} (hk : mK M r = 12) : WP d 151 55 [l0, l1, l2, l3, l4] (vr r :: st) M Q = WP d 151 58 [l0, l1, l2, l3, l4] (vi (mI M r 1) :: st) M Q := w_get mC_151 d151_55 fE_12_108 rfl (by rw [hk]; rfl)
theorem d151_58 : decode cX12_newFrog 58 = .ok (.dup_x1, 1) := by decide +kernel
theorem k151_58 {d : Nat} {l0 l1 l2 l3 l4 : Option PV} {st : List PV} {M : Mem} {Q : Option PV → Mem → Prop} {a : Int32} {b : Nat} : WP d 151 58 [l0, l1, l2, l3, l4] (vi a :: vr b :: st) M Q = WP d 151 59 [l0, l1, l2, l3, l4] (vi a :: vr b :: vi a :: st) M Q := w1 mC_151 d151_58 rfl rfl
theorem d151_59 : decode cX12_newFrog 59 = .ok (.iconst 1, 1) := by decide +kernel
theorem k151_59 {d : Nat} {l0 l1 l2 l3 l4 : Option PV} {st : List PV} {M : Mem} {Q : Option PV → Mem → Prop} : WP d 151 59 [l0, l1, l2, l3, l4] (st) M Q = WP d 151 60 [l0, l1, l2, l3, l4] (vi 1 :: st) M Q := w_iconst mC_151 d151_59 (by decide)
theorem d151_60 : decode cX12_newFrog 60 = .ok (.iadd, 1) := by decide +kernel
theorem k151_60 {d : Nat} {l0 l1 l2 l3 l4 : Option PV} {st : List PV} {M : Mem} {Q : Option PV → Mem → Prop} {x y : Int32} : WP d 151 60 [l0, l1, l2, l3, l4] (vi y :: vi x :: st) M Q = WP d 151 61 [l0, l1, l2, l3, l4] (vi (x + y) :: st) M Q := w1 mC_151 d151_60 rfl rfl
theorem d151_61 : decode cX12_newFrog 61 = .ok (.putfield 108, 3) := by decide +kernel
theorem k151_61 {d : Nat} {l0 l1 l2 l3 l4 : Option PV} {st : List PV} {M : Mem} {Q : Option PV → Mem → Prop} {r : Nat} {x : Int32} (hk : mK M r = 12) : WP d 151 61 [l0, l1, l2, l3, l4] (vi x :: vr r :: st) M Q = WP d 151 64 [l0, l1, l2, l3, l4] (st) (sI M r 1 x) Q := w_put mC_151 d151_61 fE_12_108 (by decide +kernel) (by rw [hk]; rfl)
theorem d151_64 : decode cX12_newFrog 64 = .ok (.ireturn, 1) := by decide +kernel
theorem k151_64 {d : Nat} {l0 l1 l2 l3 l4 : Option PV} {M : Mem} {Q : Option PV → Mem → Prop} {x : Int32} : WP d 151 64 [l0, l1, l2, l3, l4] ([vi x]) M Q = Q (some (vi x)) M := w_iret mC_151 d151_64 rfl
theorem d152_0 : decode cX12_frog 0 = .ok (.iload_n 1, 1) := by decide +kernel
theorem k152_0 {d : Nat} {x : Int32} {l0 l2 : Option PV} {st : List PV} {M : Mem} {Q : Option PV → Mem → Prop} : WP d 152 0 [l0, some (vi x), l2] (st) M Q = WP d 152 1 [l0, some (vi x), l2] (vi x :: st) M Q := w1 mC_152 d152_0 rfl rfl
theorem d152_1 : decode cX12_frog 1 = .ok (.invokestatic 111, 3) := by decide +kernel
theorem k152_1 {d : Nat} {l0 l1 l2 : Option PV} {st : List PV} {M : Mem} {Q : Option PV → Mem → Prop} {a0 : Int32} (hl : szL st ≤ 8) : WP (d + 1) 152 1 [l0, l1, l2] (vi a0 :: st) M Q = WP d 148 0 [some (vi a0)] [] M (fun v M' => WP (d + 1) 152 4 [l0, l1, l2] (psh v st) M' Q) := w_callS mC_152 d152_1 rfl rfl (Nat.le_of_ble_eq_true rfl) (by decide) rfl hl
theorem d152_4 : decode cX12_frog 4 = .ok (.ifCond .eq 13, 3) := by decide +kernel
theorem k152_4 {d : Nat} {l0 l1 l2 : Option PV} {st : List PV} {M : Mem} {Q : Option PV → Mem → Prop} {x : Int32} : WP d 152 4 [l0, l1, l2] (vi x :: st) M Q = (if x = 0 then WP d 152 17 [l0, l1, l2] (st) M Q else WP d 152 7 [l0, l1, l2] (st) M Q) := w_if_eq mC_152 d152_4 (by decide)
theorem d152_7 : decode cX12_frog 7 = .ok (.iload_n 2, 1) := by decide +kernel
theorem k152_7 {d : Nat} {x : Int32} {l0 l1 : Option PV} {st : List PV} {M : Mem} {Q : Option PV → Mem → Prop} : WP d 152 7 [l0, l1, some (vi x)] (st) M Q = WP d 152 8 [l0, l1, some (vi x)] (vi x :: st) M Q := w1 mC_152 d152_7 rfl rfl
theorem d152_8 : decode cX12_frog 8 = .ok (.iconst 0, 1) := by decide +kernel
theorem k152_8 {d : Nat} {l0 l1 l2 : Option PV} {st : List PV} {M : Mem} {Q : Option PV → Mem → Prop} : WP d 152 8 [l0, l1, l2] (st) M Q = WP d 152 9 [l0, l1, l2] (vi 0 :: st) M Q := w_iconst mC_152 d152_8 (by decide)
theorem d152_9 : decode cX12_frog 9 = .ok (.bipush 9, 2) := by decide +kernel
theorem k152_9 {d : Nat} {l0 l1 l2 : Option PV} {st : List PV} {M : Mem} {Q : Option PV → Mem → Prop} : WP d 152 9 [l0, l1, l2] (st) M Q = WP d 152 11 [l0, l1, l2] (vi 9 :: st) M Q := w_bipush mC_152 d152_9 (by decide)
theorem d152_11 : decode cX12_frog 11 = .ok (.invokestatic 104, 3) := by decide +kernel
theorem k152_11 {d : Nat} {l0 l1 l2 : Option PV} {st : List PV} {M : Mem} {Q : Option PV → Mem → Prop} {a0 a1 a2 : Int32} (hl : szL st ≤ 8) : WP (d + 1) 152 11 [l0, l1, l2] (vi a2 :: vi a1 :: vi a0 :: st) M Q = WP d 145 0 [some (vi a0), some (vi a1), some (vi a2)] [] M (fun v M' => WP (d + 1) 152 14 [l0, l1, l2] (psh v st) M' Q) := w_callS mC_152 d152_11 rfl rfl (Nat.le_of_ble_eq_true rfl) (by decide) rfl hl
theorem d152_14 : decode cX12_frog 14 = .ok (.ifCond .ne 5, 3) := by decide +kernel
theorem k152_14 {d : Nat} {l0 l1 l2 : Option PV} {st : List PV} {M : Mem} {Q : Option PV → Mem → Prop} {x : Int32} : WP d 152 14 [l0, l1, l2] (vi x :: st) M Q = (if x = 0 then WP d 152 17 [l0, l1, l2] (st) M Q else WP d 152 19 [l0, l1, l2] (st) M Q) := w_if_ne mC_152 d152_14 (by decide)
theorem d152_17 : decode cX12_frog 17 = .ok (.iconst (-1), 1) := by decide +kernel
theorem k152_17 {d : Nat} {l0 l1 l2 : Option PV} {st : List PV} {M : Mem} {Q : Option PV → Mem → Prop} : WP d 152 17 [l0, l1, l2] (st) M Q = WP d 152 18 [l0, l1, l2] (vi (-1) :: st) M Q := w_iconst mC_152 d152_17 (by decide)
theorem d152_18 : decode cX12_frog 18 = .ok (.ireturn, 1) := by decide +kernel
theorem k152_18 {d : Nat} {l0 l1 l2 : Option PV} {M : Mem} {Q : Option PV → Mem → Prop} {x : Int32} : WP d 152 18 [l0, l1, l2] ([vi x]) M Q = Q (some (vi x)) M := w_iret mC_152 d152_18 rfl
theorem d152_19 : decode cX12_frog 19 = .ok (.aload_n 0, 1) := by decide +kernel
theorem k152_19 {d x : Nat} {l1 l2 : Option PV} {st : List PV} {M : Mem} {Q : Option PV → Mem → Prop} : WP d 152 19 [some (vr x), l1, l2] (st) M Q = WP d 152 20 [some (vr x), l1, l2] (vr x :: st) M Q := w1 mC_152 d152_19 rfl rfl
theorem d152_20 : decode cX12_frog 20 = .ok (.getfield 108, 3) := by decide +kernel
theorem k152_20 {d : Nat} {l0 l1 l2 : Option PV} {st : List PV} {M : Mem} {Q : Option PV → Mem → Prop} {r : Nat} (hk : mK M r = 12) : WP d 152 20 [l0, l1, l2] (vr r :: st) M Q = WP d 152 23 [l0, l1, l2] (vi (mI M r 1) :: st) M Q := w_get mC_152 d152_20 fE_12_108 rfl (by rw [hk]; rfl)
theorem d152_23 : decode cX12_frog 23 = .ok (.bipush 8, 2) := by decide +kernel
theorem k152_23 {d : Nat} {l0 l1 l2 : Option PV} {st : List PV} {M : Mem} {Q : Option PV → Mem → Prop} : WP d 152 23 [l0, l1, l2] (st) M Q = WP d 152 25 [l0, l1, l2] (vi 8 :: st) M Q := w_bipush mC_152 d152_23 (by decide)
theorem d152_25 : decode cX12_frog 25 = .ok (.if_icmp .ne 8, 3) := by decide +kernel
theorem k152_25 {d : Nat} {l0 l1 l2 : Option PV} {st : List PV} {M : Mem} {Q : Option PV → Mem → Prop} {x y : Int32} : WP d 152 25 [l0, l1, l2] (vi y :: vi x :: st) M Q = (if x = y then WP d 152 28 [l0, l1, l2] (st) M Q else WP d 152 33 [l0, l1, l2] (st) M Q) := w_ic_ne mC_152 d152_25 (by decide)
theorem d152_28 : decode cX12_frog 28 = .ok (.bipush (-3), 2) := by decide +kernel
theorem k152_28 {d : Nat} {l0 l1 l2 : Option PV} {st : List PV} {M : Mem} {Q : Option PV → Mem → Prop} : WP d 152 28 [l0, l1, l2] (st) M Q = WP d 152 30 [l0, l1, l2] (vi (-3) :: st) M Q := w_bipush mC_152 d152_28 (by decide)
theorem d152_30 : decode cX12_frog 30 = .ok (.goto 11, 3) := by decide +kernel
theorem k152_30 {d : Nat} {l0 l1 l2 : Option PV} {st : List PV} {M : Mem} {Q : Option PV → Mem → Prop} : WP d 152 30 [l0, l1, l2] (st) M Q = WP d 152 41 [l0, l1, l2] (st) M Q := w_goto mC_152 d152_30 (by decide)
theorem d152_33 : decode cX12_frog 33 = .ok (.aload_n 0, 1) := by decide +kernel
theorem k152_33 {d x : Nat} {l1 l2 : Option PV} {st : List PV} {M : Mem} {Q : Option PV → Mem → Prop} : WP d 152 33 [some (vr x), l1, l2] (st) M Q = WP d 152 34 [some (vr x), l1, l2] (vr x :: st) M Q := w1 mC_152 d152_33 rfl rfl
theorem d152_34 : decode cX12_frog 34 = .ok (.iload_n 1, 1) := by decide +kernel
theorem k152_34 {d : Nat} {x : Int32} {l0 l2 : Option PV} {st : List PV} {M : Mem} {Q : Option PV → Mem → Prop} : WP d 152 34 [l0, some (vi x), l2] (st) M Q = WP d 152 35 [l0, some (vi x), l2] (vi x :: st) M Q := w1 mC_152 d152_34 rfl rfl
theorem d152_35 : decode cX12_frog 35 = .ok (.iload_n 2, 1) := by decide +kernel
theorem k152_35 {d : Nat} {x : Int32} {l0 l1 : Option PV} {st : List PV} {M : Mem} {Q : Option PV → Mem → Prop} : WP d 152 35 [l0, l1, some (vi x)] (st) M Q = WP d 152 36 [l0, l1, some (vi x)] (vi x :: st) M Q := w1 mC_152 d152_35 rfl rfl
theorem d152_36 : decode cX12_frog 36 = .ok (.iconst (-1), 1) := by decide +kernel
theorem k152_36 {d : Nat} {l0 l1 l2 : Option PV} {st : List PV} {M : Mem} {Q : Option PV → Mem → Prop} : WP d 152 36 [l0, l1, l2] (st) M Q = WP d 152 37 [l0, l1, l2] (vi (-1) :: st) M Q := w_iconst mC_152 d152_36 (by decide)
theorem d152_37 : decode cX12_frog 37 = .ok (.iconst 0, 1) := by decide +kernel
theorem k152_37 {d : Nat} {l0 l1 l2 : Option PV} {st : List PV} {M : Mem} {Q : Option PV → Mem → Prop} : WP d 152 37 [l0, l1, l2] (st) M Q = WP d 152 38 [l0, l1, l2] (vi 0 :: st) M Q := w_iconst mC_152 d152_37 (by decide)
theorem d152_38 : decode cX12_frog 38 = .ok (.invokevirtual 115, 3) := by decide +kernel
theorem k152_38 {d : Nat} {l0 l1 l2 : Option PV} {st : List PV} {M : Mem} {Q : Option PV → Mem → Prop} {a0 a1 a2 a3 : Int32} {r : Nat} (hl : szL st ≤ 8) (hk : mK M r = 12) : WP (d + 1) 152 38 [l0, l1, l2] (vi a3 :: vi a2 :: vi a1 :: vi a0 :: vr r :: st) M Q = WP d 151 0 [some (vr r), some (vi a0), some (vi a1), some (vi a2), some (vi a3)] [] M (fun v M' => WP (d + 1) 152 41 [l0, l1, l2] (psh v st) M' Q) := w_callV mC_152 d152_38 (ci := 12) rfl rfl rfl (Nat.le_of_ble_eq_true rfl) (by decide) rfl hl hk
theorem d152_41 : decode cX12_frog 41 = .ok (.ireturn, 1) := by decide +kernel
theorem k152_41 {d : Nat} {l0 l1 l2 : Option PV} {M : Mem} {Q : Option PV → Mem → Prop} {x : Int32} : WP d 152 41 [l0, l1, l2] ([vi x]) M Q = Q (some (vi x)) M := w_iret mC_152 d152_41 rfl
theorem d153_0 : decode cX12_mayOwe 0 = .ok (.iload_n 1, 1) := by decide +kernel
theorem k153_0 {d : Nat} {x : Int32} {l0 : Option PV} {st : List PV} {M : Mem} {Q : Option PV → Mem → Prop} : WP d 153 0 [l0, some (vi x)] (st) M Q = WP d 153 1 [l0, some (vi x)] (vi x :: st) M Q := w1 mC_153 d153_0 rfl rfl
theorem d153_1 : decode cX12_mayOwe 1 = .ok (.iconst (-1), 1) := by decide +kernel
theorem k153_1 {d : Nat} {l0 l1 : Option PV} {st : List PV} {M : Mem} {Q : Option PV → Mem → Prop} : WP d 153 1 [l0, l1] (st) M Q = WP d 153 2 [l0, l1] (vi (-1) :: st) M Q := w_iconst mC_153 d153_1 (by decide)
theorem d153_2 : decode cX12_mayOwe 2 = .ok (.if_icmp .eq 11, 3) := by decide +kernel
theorem k153_2 {d : Nat} {l0 l1 : Option PV} {st : List PV} {M : Mem} {Q : Option PV → Mem → Prop} {x y : Int32} : WP d 153 2 [l0, l1] (vi y :: vi x :: st) M Q = (if x = y then WP d 153 13 [l0, l1] (st) M Q else WP d 153 5 [l0, l1] (st) M Q) := w_ic_eq mC_153 d153_2 (by decide)
theorem d153_5 : decode cX12_mayOwe 5 = .ok (.aload_n 0, 1) := by decide +kernel
theorem k153_5 {d x : Nat} {l1 : Option PV} {st : List PV} {M : Mem} {Q : Option PV → Mem → Prop} : WP d 153 5 [some (vr x), l1] (st) M Q = WP d 153 6 [some (vr x), l1] (vr x :: st) M Q := w1 mC_153 d153_5 rfl rfl
theorem d153_6 : decode cX12_mayOwe 6 = .ok (.iload_n 1, 1) := by decide +kernel
theorem k153_6 {d : Nat} {x : Int32} {l0 : Option PV} {st : List PV} {M : Mem} {Q : Option PV → Mem → Prop} : WP d 153 6 [l0, some (vi x)] (st) M Q = WP d 153 7 [l0, some (vi x)] (vi x :: st) M Q := w1 mC_153 d153_6 rfl rfl
theorem d153_7 : decode cX12_mayOwe 7 = .ok (.invokevirtual 119, 3) := by decide +kernel
theorem k153_7 {d : Nat} {l0 l1 : Option PV} {st : List PV} {M : Mem} {Q : Option PV → Mem → Prop} {a0 : Int32} {r : Nat} (hl : szL st ≤ 8) (hk : mK M r = 12) : WP (d + 1) 153 7 [l0, l1] (vi a0 :: vr r :: st) M Q = WP d 146 0 [some (vr r), some (vi a0)] [] M (fun v M' => WP (d + 1) 153 10 [l0, l1] (psh v st) M' Q) := w_callV mC_153 d153_7 (ci := 12) rfl rfl rfl (Nat.le_of_ble_eq_true rfl) (by decide) rfl hl hk
theorem d153_10 : decode cX12_mayOwe 10 = .ok (.ifCond .eq 7, 3) := by decide +kernel
theorem k153_10 {d : Nat} {l0 l1 : Option PV} {st : List PV} {M : Mem} {Q : Option PV → Mem → Prop} {x : Int32} : WP d 153 10 [l0, l1] (vi x :: st) M Q = (if x = 0 then WP d 153 17 [l0, l1] (st) M Q else WP d 153 13 [l0, l1] (st) M Q) := w_if_eq mC_153 d153_10 (by decide)
theorem d153_13 : decode cX12_mayOwe 13 = .ok (.iconst 1, 1) := by decide +kernel
theorem k153_13 {d : Nat} {l0 l1 : Option PV} {st : List PV} {M : Mem} {Q : Option PV → Mem → Prop} : WP d 153 13 [l0, l1] (st) M Q = WP d 153 14 [l0, l1] (vi 1 :: st) M Q := w_iconst mC_153 d153_13 (by decide)
theorem d153_14 : decode cX12_mayOwe 14 = .ok (.goto 4, 3) := by decide +kernel
theorem k153_14 {d : Nat} {l0 l1 : Option PV} {st : List PV} {M : Mem} {Q : Option PV → Mem → Prop} : WP d 153 14 [l0, l1] (st) M Q = WP d 153 18 [l0, l1] (st) M Q := w_goto mC_153 d153_14 (by decide)
theorem d153_17 : decode cX12_mayOwe 17 = .ok (.iconst 0, 1) := by decide +kernel
theorem k153_17 {d : Nat} {l0 l1 : Option PV} {st : List PV} {M : Mem} {Q : Option PV → Mem → Prop} : WP d 153 17 [l0, l1] (st) M Q = WP d 153 18 [l0, l1] (vi 0 :: st) M Q := w_iconst mC_153 d153_17 (by decide)
theorem d153_18 : decode cX12_mayOwe 18 = .ok (.ireturn, 1) := by decide +kernel
theorem k153_18 {d : Nat} {l0 l1 : Option PV} {M : Mem} {Q : Option PV → Mem → Prop} {x : Int32} (hx : x = 0 ∨ x = 1) : WP d 153 18 [l0, l1] ([vi x]) M Q = Q (some (vi x)) M := w_zret mC_153 d153_18 rfl hx
theorem d154_0 : decode cX12_frogs 0 = .ok (.iload_n 1, 1) := by decide +kernel
theorem k154_0 {d : Nat} {x : Int32} {l0 l2 l3 l4 l5 l6 l7 l8 : Option PV} {st : List PV} {M : Mem} {Q : Option PV → Mem → Prop} : WP d 154 0 [l0, some (vi x), l2, l3, l4, l5, l6, l7, l8] (st) M Q = WP d 154 1 [l0, some (vi x), l2, l3, l4, l5, l6, l7, l8] (vi x :: st) M Q := w1 mC_154 d154_0 rfl rfl
theorem d154_1 : decode cX12_frogs 1 = .ok (.invokestatic 122, 3) := by decide +kernel
theorem k154_1 {d : Nat} {l0 l1 l2 l3 l4 l5 l6 l7 l8 : Option PV} {st : List PV} {M : Mem} {Q : Option PV → Mem → Prop} {a0 : Int32} (hl : szL st ≤ 8) : WP (d + 1) 154 1 [l0, l1, l2, l3, l4, l5, l6, l7, l8] (vi a0 :: st) M Q = WP d 149 0 [some (vi a0)] [] M (fun v M' => WP (d + 1) 154 4 [l0, l1, l2, l3, l4, l5, l6, l7, l8] (psh v st) M' Q) := w_callS mC_154 d154_1 rfl rfl (Nat.le_of_ble_eq_true rfl) (by decide) rfl hl
theorem d154_4 : decode cX12_frogs 4 = .ok (.ifCond .eq 13, 3) := by decide +kernel
theorem k154_4 {d : Nat} {l0 l1 l2 l3 l4 l5 l6 l7 l8 : Option PV} {st : List PV} {M : Mem} {Q : Option PV → Mem → Prop} {x : Int32} : WP d 154 4 [l0, l1, l2, l3, l4, l5, l6, l7, l8] (vi x :: st) M Q = (if x = 0 then WP d 154 17 [l0, l1, l2, l3, l4, l5, l6, l7, l8] (st) M Q else WP d 154 7 [l0, l1, l2, l3, l4, l5, l6, l7, l8] (st) M Q) := w_if_eq mC_154 d154_4 (by decide)
theorem d154_7 : decode cX12_frogs 7 = .ok (.iload_n 3, 1) := by decide +kernel
theorem k154_7 {d : Nat} {x : Int32} {l0 l1 l2 l4 l5 l6 l7 l8 : Option PV} {st : List PV} {M : Mem} {Q : Option PV → Mem → Prop} : WP d 154 7 [l0, l1, l2, some (vi x), l4, l5, l6, l7, l8] (st) M Q = WP d 154 8 [l0, l1, l2, some (vi x), l4, l5, l6, l7, l8] (vi x :: st) M Q := w1 mC_154 d154_7 rfl rfl
theorem d154_8 : decode cX12_frogs 8 = .ok (.iconst 1, 1) := by decide +kernel
theorem k154_8 {d : Nat} {l0 l1 l2 l3 l4 l5 l6 l7 l8 : Option PV} {st : List PV} {M : Mem} {Q : Option PV → Mem → Prop} : WP d 154 8 [l0, l1, l2, l3, l4, l5, l6, l7, l8] (st) M Q = WP d 154 9 [l0, l1, l2, l3, l4, l5, l6, l7, l8] (vi 1 :: st) M Q := w_iconst mC_154 d154_8 (by decide)
theorem d154_9 : decode cX12_frogs 9 = .ok (.bipush 8, 2) := by decide +kernel
theorem k154_9 {d : Nat} {l0 l1 l2 l3 l4 l5 l6 l7 l8 : Option PV} {st : List PV} {M : Mem} {Q : Option PV → Mem → Prop} : WP d 154 9 [l0, l1, l2, l3, l4, l5, l6, l7, l8] (st) M Q = WP d 154 11 [l0, l1, l2, l3, l4, l5, l6, l7, l8] (vi 8 :: st) M Q := w_bipush mC_154 d154_9 (by decide)
theorem d154_11 : decode cX12_frogs 11 = .ok (.invokestatic 104, 3) := by decide +kernel
theorem k154_11 {d : Nat} {l0 l1 l2 l3 l4 l5 l6 l7 l8 : Option PV} {st : List PV} {M : Mem} {Q : Option PV → Mem → Prop} {a0 a1 a2 : Int32} (hl : szL st ≤ 8) : WP (d + 1) 154 11 [l0, l1, l2, l3, l4, l5, l6, l7, l8] (vi a2 :: vi a1 :: vi a0 :: st) M Q = WP d 145 0 [some (vi a0), some (vi a1), some (vi a2)] [] M (fun v M' => WP (d + 1) 154 14 [l0, l1, l2, l3, l4, l5, l6, l7, l8] (psh v st) M' Q) := w_callS mC_154 d154_11 rfl rfl (Nat.le_of_ble_eq_true rfl) (by decide) rfl hl
theorem d154_14 : decode cX12_frogs 14 = .ok (.ifCond .ne 5, 3) := by decide +kernel
theorem k154_14 {d : Nat} {l0 l1 l2 l3 l4 l5 l6 l7 l8 : Option PV} {st : List PV} {M : Mem} {Q : Option PV → Mem → Prop} {x : Int32} : WP d 154 14 [l0, l1, l2, l3, l4, l5, l6, l7, l8] (vi x :: st) M Q = (if x = 0 then WP d 154 17 [l0, l1, l2, l3, l4, l5, l6, l7, l8] (st) M Q else WP d 154 19 [l0, l1, l2, l3, l4, l5, l6, l7, l8] (st) M Q) := w_if_ne mC_154 d154_14 (by decide)
theorem d154_17 : decode cX12_frogs 17 = .ok (.iconst (-1), 1) := by decide +kernel
theorem k154_17 {d : Nat} {l0 l1 l2 l3 l4 l5 l6 l7 l8 : Option PV} {st : List PV} {M : Mem} {Q : Option PV → Mem → Prop} : WP d 154 17 [l0, l1, l2, l3, l4, l5, l6, l7, l8] (st) M Q = WP d 154 18 [l0, l1, l2, l3, l4, l5, l6, l7, l8] (vi (-1) :: st) M Q := w_iconst mC_154 d154_17 (by decide)
theorem d154_18 : decode cX12_frogs 18 = .ok (.ireturn, 1) := by decide +kernel
theorem k154_18 {d : Nat} {l0 l1 l2 l3 l4 l5 l6 l7 l8 : Option PV} {M : Mem} {Q : Option PV → Mem → Prop} {x : Int32} : WP d 154 18 [l0, l1, l2, l3, l4, l5, l6, l7, l8] ([vi x]) M Q = Q (some (vi x)) M := w_iret mC_154 d154_18 rfl
theorem d154_19 : decode cX12_frogs 19 = .ok (.aload_n 0, 1) := by decide +kernel
theorem k154_19 {d x : Nat} {l1 l2 l3 l4 l5 l6 l7 l8 : Option PV} {st : List PV} {M : Mem} {Q : Option PV → Mem → Prop} : WP d 154 19 [some (vr x), l1, l2, l3, l4, l5, l6, l7, l8] (st) M Q = WP d 154 20 [some (vr x), l1, l2, l3, l4, l5, l6, l7, l8] (vr x :: st) M Q := w1 mC_154 d154_19 rfl rfl
theorem d154_20 : decode cX12_frogs 20 = .ok (.getfield 69, 3) := by decide +kernel
theorem k154_20 {d : Nat} {l0 l1 l2 l3 l4 l5 l6 l7 l8 : Option PV} {st : List PV} {M : Mem} {Q : Option PV → Mem → Prop} {r : Nat} (hk : mK M r = 12) : WP d 154 20 [l0, l1, l2, l3, l4, l5, l6, l7, l8] (vr r :: st) M Q = WP d 154 23 [l0, l1, l2, l3, l4, l5, l6, l7, l8] (vr (mR M r 35) :: st) M Q := w_getr mC_154 d154_20 fE_12_69 rfl (by rw [hk]; rfl)
theorem d154_23 : decode cX12_frogs 23 = .ok (.iload_n 1, 1) := by decide +kernel
theorem k154_23 {d : Nat} {x : Int32} {l0 l2 l3 l4 l5 l6 l7 l8 : Option PV} {st : List PV} {M : Mem} {Q : Option PV → Mem → Prop} : WP d 154 23 [l0, some (vi x), l2, l3, l4, l5, l6, l7, l8] (st) M Q = WP d 154 24 [l0, some (vi x), l2, l3, l4, l5, l6, l7, l8] (vi x :: st) M Q := w1 mC_154 d154_23 rfl rfl
theorem d154_24 : decode cX12_frogs 24 = .ok (.iaload, 1) := by decide +kernel
theorem k154_24 {d : Nat} {l0 l1 l2 l3 l4 l5 l6 l7 l8 : Option PV} {st : List PV} {M : Mem} {Q : Option PV → Mem → Prop} {r : Nat} {j : Int32} (hk : mK M r = 13) (hj : inb j (mN M r)) (h1 : r ≠ 1) : WP d 154 24 [l0, l1, l2, l3, l4, l5, l6, l7, l8] (vi j :: vr r :: st) M Q = WP d 154 25 [l0, l1, l2, l3, l4, l5, l6, l7, l8] (vi (mI M r (ix j)) :: st) M Q := w_iald mC_154 d154_24 (by decide) hk hj h1
theorem d154_25 : decode cX12_frogs 25 = .ok (.iconst (-1), 1) := by decide +kernel
theorem k154_25 {d : Nat} {l0 l1 l2 l3 l4 l5 l6 l7 l8 : Option PV} {st : List PV} {M : Mem} {Q : Option PV → Mem → Prop} : WP d 154 25 [l0, l1, l2, l3, l4, l5, l6, l7, l8] (st) M Q = WP d 154 26 [l0, l1, l2, l3, l4, l5, l6, l7, l8] (vi (-1) :: st) M Q := w_iconst mC_154 d154_25 (by decide)
theorem d154_26 : decode cX12_frogs 26 = .ok (.if_icmp .ne 5, 3) := by decide +kernel
theorem k154_26 {d : Nat} {l0 l1 l2 l3 l4 l5 l6 l7 l8 : Option PV} {st : List PV} {M : Mem} {Q : Option PV → Mem → Prop} {x y : Int32} : WP d 154 26 [l0, l1, l2, l3, l4, l5, l6, l7, l8] (vi y :: vi x :: st) M Q = (if x = y then WP d 154 29 [l0, l1, l2, l3, l4, l5, l6, l7, l8] (st) M Q else WP d 154 31 [l0, l1, l2, l3, l4, l5, l6, l7, l8] (st) M Q) := w_ic_ne mC_154 d154_26 (by decide)
theorem d154_29 : decode cX12_frogs 29 = .ok (.iconst 0, 1) := by decide +kernel
theorem k154_29 {d : Nat} {l0 l1 l2 l3 l4 l5 l6 l7 l8 : Option PV} {st : List PV} {M : Mem} {Q : Option PV → Mem → Prop} : WP d 154 29 [l0, l1, l2, l3, l4, l5, l6, l7, l8] (st) M Q = WP d 154 30 [l0, l1, l2, l3, l4, l5, l6, l7, l8] (vi 0 :: st) M Q := w_iconst mC_154 d154_29 (by decide)
theorem d154_30 : decode cX12_frogs 30 = .ok (.ireturn, 1) := by decide +kernel
theorem k154_30 {d : Nat} {l0 l1 l2 l3 l4 l5 l6 l7 l8 : Option PV} {M : Mem} {Q : Option PV → Mem → Prop} {x : Int32} : WP d 154 30 [l0, l1, l2, l3, l4, l5, l6, l7, l8] ([vi x]) M Q = Q (some (vi x)) M := w_iret mC_154 d154_30 rfl
theorem d154_31 : decode cX12_frogs 31 = .ok (.aload_n 0, 1) := by decide +kernel
theorem k154_31 {d x : Nat} {l1 l2 l3 l4 l5 l6 l7 l8 : Option PV} {st : List PV} {M : Mem} {Q : Option PV → Mem → Prop} : WP d 154 31 [some (vr x), l1, l2, l3, l4, l5, l6, l7, l8] (st) M Q = WP d 154 32 [some (vr x), l1, l2, l3, l4, l5, l6, l7, l8] (vr x :: st) M Q := w1 mC_154 d154_31 rfl rfl
theorem d154_32 : decode cX12_frogs 32 = .ok (.getfield 69, 3) := by decide +kernel
theorem k154_32 {d : Nat} {l0 l1 l2 l3 l4 l5 l6 l7 l8 : Option PV} {st : List PV} {M : Mem} {Q : Option PV → Mem → Prop} {r : Nat} (hk : mK M r = 12) : WP d 154 32 [l0, l1, l2, l3, l4, l5, l6, l7, l8] (vr r :: st) M Q = WP d 154 35 [l0, l1, l2, l3, l4, l5, l6, l7, l8] (vr (mR M r 35) :: st) M Q := w_getr mC_154 d154_32 fE_12_69 rfl (by rw [hk]; rfl)
theorem d154_35 : decode cX12_frogs 35 = .ok (.iload_n 1, 1) := by decide +kernel
theorem k154_35 {d : Nat} {x : Int32} {l0 l2 l3 l4 l5 l6 l7 l8 : Option PV} {st : List PV} {M : Mem} {Q : Option PV → Mem → Prop} : WP d 154 35 [l0, some (vi x), l2, l3, l4, l5, l6, l7, l8] (st) M Q = WP d 154 36 [l0, some (vi x), l2, l3, l4, l5, l6, l7, l8] (vi x :: st) M Q := w1 mC_154 d154_35 rfl rfl
theorem d154_36 : decode cX12_frogs 36 = .ok (.iaload, 1) := by decide +kernel
theorem k154_36 {d : Nat} {l0 l1 l2 l3 l4 l5 l6 l7 l8 : Option PV} {st : List PV} {M : Mem} {Q : Option PV → Mem → Prop} {r : Nat} {j : Int32} (hk : mK M r = 13) (hj : inb j (mN M r)) (h1 : r ≠ 1) : WP d 154 36 [l0, l1, l2, l3, l4, l5, l6, l7, l8] (vi j :: vr r :: st) M Q = WP d 154 37 [l0, l1, l2, l3, l4, l5, l6, l7, l8] (vi (mI M r (ix j)) :: st) M Q := w_iald mC_154 d154_36 (by decide) hk hj h1
theorem d154_37 : decode cX12_frogs 37 = .ok (.ifCond .eq 6, 3) := by decide +kernel
theorem k154_37 {d : Nat} {l0 l1 l2 l3 l4 l5 l6 l7 l8 : Option PV} {st : List PV} {M : Mem} {Q : Option PV → Mem → Prop} {x : Int32} : WP d 154 37 [l0, l1, l2, l3, l4, l5, l6, l7, l8] (vi x :: st) M Q = (if x = 0 then WP d 154 43 [l0, l1, l2, l3, l4, l5, l6, l7, l8] (st) M Q else WP d 154 40 [l0, l1, l2, l3, l4, l5, l6, l7, l8] (st) M Q) := w_if_eq mC_154 d154_37 (by decide)
theorem d154_40 : decode cX12_frogs 40 = .ok (.bipush (-12), 2) := by decide +kernel
theorem k154_40 {d : Nat} {l0 l1 l2 l3 l4 l5 l6 l7 l8 : Option PV} {st : List PV} {M : Mem} {Q : Option PV → Mem → Prop} : WP d 154 40 [l0, l1, l2, l3, l4, l5, l6, l7, l8] (st) M Q = WP d 154 42 [l0, l1, l2, l3, l4, l5, l6, l7, l8] (vi (-12) :: st) M Q := w_bipush mC_154 d154_40 (by decide)
theorem d154_42 : decode cX12_frogs 42 = .ok (.ireturn, 1) := by decide +kernel
theorem k154_42 {d : Nat} {l0 l1 l2 l3 l4 l5 l6 l7 l8 : Option PV} {M : Mem} {Q : Option PV → Mem → Prop} {x : Int32} : WP d 154 42 [l0, l1, l2, l3, l4, l5, l6, l7, l8] ([vi x]) M Q = Q (some (vi x)) M := w_iret mC_154 d154_42 rfl
theorem d154_43 : decode cX12_frogs 43 = .ok (.iconst 0, 1) := by decide +kernel
theorem k154_43 {d : Nat} {l0 l1 l2 l3 l4 l5 l6 l7 l8 : Option PV} {st : List PV} {M : Mem} {Q : Option PV → Mem → Prop} : WP d 154 43 [l0, l1, l2, l3, l4, l5, l6, l7, l8] (st) M Q = WP d 154 44 [l0, l1, l2, l3, l4, l5, l6, l7, l8] (vi 0 :: st) M Q := w_iconst mC_154 d154_43 (by decide)
theorem d154_44 : decode cX12_frogs 44 = .ok (.istore 4, 2) := by decide +kernel
theorem k154_44 {d : Nat} {l0 l1 l2 l3 l4 l5 l6 l7 l8 : Option PV} {st : List PV} {M : Mem} {Q : Option PV → Mem → Prop} {x : Int32} : WP d 154 44 [l0, l1, l2, l3, l4, l5, l6, l7, l8] (vi x :: st) M Q = WP d 154 46 [l0, l1, l2, l3, some (vi x), l5, l6, l7, l8] (st) M Q := w1 mC_154 d154_44 rfl rfl
theorem d154_46 : decode cX12_frogs 46 = .ok (.iconst 0, 1) := by decide +kernel
theorem k154_46 {d : Nat} {l0 l1 l2 l3 l4 l5 l6 l7 l8 : Option PV} {st : List PV} {M : Mem} {Q : Option PV → Mem → Prop} : WP d 154 46 [l0, l1, l2, l3, l4, l5, l6, l7, l8] (st) M Q = WP d 154 47 [l0, l1, l2, l3, l4, l5, l6, l7, l8] (vi 0 :: st) M Q := w_iconst mC_154 d154_46 (by decide)
theorem d154_47 : decode cX12_frogs 47 = .ok (.istore 5, 2) := by decide +kernel
theorem k154_47 {d : Nat} {l0 l1 l2 l3 l4 l5 l6 l7 l8 : Option PV} {st : List PV} {M : Mem} {Q : Option PV → Mem → Prop} {x : Int32} : WP d 154 47 [l0, l1, l2, l3, l4, l5, l6, l7, l8] (vi x :: st) M Q = WP d 154 49 [l0, l1, l2, l3, l4, some (vi x), l6, l7, l8] (st) M Q := w1 mC_154 d154_47 rfl rfl
theorem d154_49 : decode cX12_frogs 49 = .ok (.iload 5, 2) := by decide +kernel
theorem k154_49 {d : Nat} {x : Int32} {l0 l1 l2 l3 l4 l6 l7 l8 : Option PV} {st : List PV} {M : Mem} {Q : Option PV → Mem → Prop} : WP d 154 49 [l0, l1, l2, l3, l4, some (vi x), l6, l7, l8] (st) M Q = WP d 154 51 [l0, l1, l2, l3, l4, some (vi x), l6, l7, l8] (vi x :: st) M Q := w1 mC_154 d154_49 rfl rfl
theorem d154_51 : decode cX12_frogs 51 = .ok (.iload_n 3, 1) := by decide +kernel
theorem k154_51 {d : Nat} {x : Int32} {l0 l1 l2 l4 l5 l6 l7 l8 : Option PV} {st : List PV} {M : Mem} {Q : Option PV → Mem → Prop} : WP d 154 51 [l0, l1, l2, some (vi x), l4, l5, l6, l7, l8] (st) M Q = WP d 154 52 [l0, l1, l2, some (vi x), l4, l5, l6, l7, l8] (vi x :: st) M Q := w1 mC_154 d154_51 rfl rfl
theorem d154_52 : decode cX12_frogs 52 = .ok (.if_icmp .ge 172, 3) := by decide +kernel
theorem k154_52 {d : Nat} {l0 l1 l2 l3 l4 l5 l6 l7 l8 : Option PV} {st : List PV} {M : Mem} {Q : Option PV → Mem → Prop} {x y : Int32} : WP d 154 52 [l0, l1, l2, l3, l4, l5, l6, l7, l8] (vi y :: vi x :: st) M Q = (if y ≤ x then WP d 154 224 [l0, l1, l2, l3, l4, l5, l6, l7, l8] (st) M Q else WP d 154 55 [l0, l1, l2, l3, l4, l5, l6, l7, l8] (st) M Q) := w_ic_ge mC_154 d154_52 (by decide)
theorem d154_55 : decode cX12_frogs 55 = .ok (.iload_n 2, 1) := by decide +kernel
theorem k154_55 {d : Nat} {x : Int32} {l0 l1 l3 l4 l5 l6 l7 l8 : Option PV} {st : List PV} {M : Mem} {Q : Option PV → Mem → Prop} : WP d 154 55 [l0, l1, some (vi x), l3, l4, l5, l6, l7, l8] (st) M Q = WP d 154 56 [l0, l1, some (vi x), l3, l4, l5, l6, l7, l8] (vi x :: st) M Q := w1 mC_154 d154_55 rfl rfl
theorem d154_56 : decode cX12_frogs 56 = .ok (.i2l, 1) := by decide +kernel
theorem k154_56 {d : Nat} {l0 l1 l2 l3 l4 l5 l6 l7 l8 : Option PV} {st : List PV} {M : Mem} {Q : Option PV → Mem → Prop} {x : Int32} : WP d 154 56 [l0, l1, l2, l3, l4, l5, l6, l7, l8] (vi x :: st) M Q = WP d 154 57 [l0, l1, l2, l3, l4, l5, l6, l7, l8] (vl x.toInt64 :: st) M Q := w1 mC_154 d154_56 rfl rfl
theorem d154_57 : decode cX12_frogs 57 = .ok (.ldc2_w 125, 3) := by decide +kernel
theorem k154_57 {d : Nat} {l0 l1 l2 l3 l4 l5 l6 l7 l8 : Option PV} {st : List PV} {M : Mem} {Q : Option PV → Mem → Prop} : WP d 154 57 [l0, l1, l2, l3, l4, l5, l6, l7, l8] (st) M Q = WP d 154 60 [l0, l1, l2, l3, l4, l5, l6, l7, l8] (vl 4 :: st) M Q := w_ldl mC_154 d154_57 rfl
theorem d154_60 : decode cX12_frogs 60 = .ok (.iload 5, 2) := by decide +kernel
theorem k154_60 {d : Nat} {x : Int32} {l0 l1 l2 l3 l4 l6 l7 l8 : Option PV} {st : List PV} {M : Mem} {Q : Option PV → Mem → Prop} : WP d 154 60 [l0, l1, l2, l3, l4, some (vi x), l6, l7, l8] (st) M Q = WP d 154 62 [l0, l1, l2, l3, l4, some (vi x), l6, l7, l8] (vi x :: st) M Q := w1 mC_154 d154_60 rfl rfl
theorem d154_62 : decode cX12_frogs 62 = .ok (.i2l, 1) := by decide +kernel
theorem k154_62 {d : Nat} {l0 l1 l2 l3 l4 l5 l6 l7 l8 : Option PV} {st : List PV} {M : Mem} {Q : Option PV → Mem → Prop} {x : Int32} : WP d 154 62 [l0, l1, l2, l3, l4, l5, l6, l7, l8] (vi x :: st) M Q = WP d 154 63 [l0, l1, l2, l3, l4, l5, l6, l7, l8] (vl x.toInt64 :: st) M Q := w1 mC_154 d154_62 rfl rfl
theorem d154_63 : decode cX12_frogs 63 = .ok (.lmul, 1) := by decide +kernel
theorem k154_63 {d : Nat} {l0 l1 l2 l3 l4 l5 l6 l7 l8 : Option PV} {st : List PV} {M : Mem} {Q : Option PV → Mem → Prop} {x y : Int64} : WP d 154 63 [l0, l1, l2, l3, l4, l5, l6, l7, l8] (vl y :: vl x :: st) M Q = WP d 154 64 [l0, l1, l2, l3, l4, l5, l6, l7, l8] (vl (x * y) :: st) M Q := w1 mC_154 d154_63 rfl rfl
theorem d154_64 : decode cX12_frogs 64 = .ok (.ladd, 1) := by decide +kernel
theorem k154_64 {d : Nat} {l0 l1 l2 l3 l4 l5 l6 l7 l8 : Option PV} {st : List PV} {M : Mem} {Q : Option PV → Mem → Prop} {x y : Int64} : WP d 154 64 [l0, l1, l2, l3, l4, l5, l6, l7, l8] (vl y :: vl x :: st) M Q = WP d 154 65 [l0, l1, l2, l3, l4, l5, l6, l7, l8] (vl (x + y) :: st) M Q := w1 mC_154 d154_64 rfl rfl
theorem d154_65 : decode cX12_frogs 65 = .ok (.lstore 6, 2) := by decide +kernel
theorem k154_65 {d : Nat} {l0 l1 l2 l3 l4 l5 l6 l7 l8 : Option PV} {st : List PV} {M : Mem} {Q : Option PV → Mem → Prop} {x : Int64} : WP d 154 65 [l0, l1, l2, l3, l4, l5, l6, l7, l8] (vl x :: st) M Q = WP d 154 67 [l0, l1, l2, l3, l4, l5, some (vl x), none, l8] (st) M Q := w1 mC_154 d154_65 rfl rfl
theorem d154_67 : decode cX12_frogs 67 = .ok (.lload 6, 2) := by decide +kernel
theorem k154_67 {d : Nat} {x : Int64} {l0 l1 l2 l3 l4 l5 l8 : Option PV} {st : List PV} {M : Mem} {Q : Option PV → Mem → Prop} : WP d 154 67 [l0, l1, l2, l3, l4, l5, some (vl x), none, l8] (st) M Q = WP d 154 69 [l0, l1, l2, l3, l4, l5, some (vl x), none, l8] (vl x :: st) M Q := w1 mC_154 d154_67 rfl rfl
theorem d154_69 : decode cX12_frogs 69 = .ok (.lconst 0, 1) := by decide +kernel
theorem k154_69 {d : Nat} {l0 l1 l2 l3 l4 l5 l6 l7 l8 : Option PV} {st : List PV} {M : Mem} {Q : Option PV → Mem → Prop} : WP d 154 69 [l0, l1, l2, l3, l4, l5, l6, l7, l8] (st) M Q = WP d 154 70 [l0, l1, l2, l3, l4, l5, l6, l7, l8] (vl 0 :: st) M Q := w_lconst mC_154 d154_69 (by decide)
theorem d154_70 : decode cX12_frogs 70 = .ok (.lcmp, 1) := by decide +kernel
theorem k154_70 {d : Nat} {l0 l1 l2 l3 l4 l5 l6 l7 l8 : Option PV} {st : List PV} {M : Mem} {Q : Option PV → Mem → Prop} {x y : Int64} : WP d 154 70 [l0, l1, l2, l3, l4, l5, l6, l7, l8] (vl y :: vl x :: st) M Q = WP d 154 71 [l0, l1, l2, l3, l4, l5, l6, l7, l8] (vi (lg_cmp x y) :: st) M Q := w1 mC_154 d154_70 rfl rfl
theorem d154_71 : decode cX12_frogs 71 = .ok (.ifCond .lt 29, 3) := by decide +kernel
theorem k154_71 {d : Nat} {l0 l1 l2 l3 l4 l5 l6 l7 l8 : Option PV} {st : List PV} {M : Mem} {Q : Option PV → Mem → Prop} {x : Int32} : WP d 154 71 [l0, l1, l2, l3, l4, l5, l6, l7, l8] (vi x :: st) M Q = (if x < 0 then WP d 154 100 [l0, l1, l2, l3, l4, l5, l6, l7, l8] (st) M Q else WP d 154 74 [l0, l1, l2, l3, l4, l5, l6, l7, l8] (st) M Q) := w_if_lt mC_154 d154_71 (by decide)
theorem d154_74 : decode cX12_frogs 74 = .ok (.lload 6, 2) := by decide +kernel
theorem k154_74 {d : Nat} {x : Int64} {l0 l1 l2 l3 l4 l5 l8 : Option PV} {st : List PV} {M : Mem} {Q : Option PV → Mem → Prop} : WP d 154 74 [l0, l1, l2, l3, l4, l5, some (vl x), none, l8] (st) M Q = WP d 154 76 [l0, l1, l2, l3, l4, l5, some (vl x), none, l8] (vl x :: st) M Q := w1 mC_154 d154_74 rfl rfl
theorem d154_76 : decode cX12_frogs 76 = .ok (.ldc2_w 125, 3) := by decide +kernel
theorem k154_76 {d : Nat} {l0 l1 l2 l3 l4 l5 l6 l7 l8 : Option PV} {st : List PV} {M : Mem} {Q : Option PV → Mem → Prop} : WP d 154 76 [l0, l1, l2, l3, l4, l5, l6, l7, l8] (st) M Q = WP d 154 79 [l0, l1, l2, l3, l4, l5, l6, l7, l8] (vl 4 :: st) M Q := w_ldl mC_154 d154_76 rfl
theorem d154_79 : decode cX12_frogs 79 = .ok (.ladd, 1) := by decide +kernel
theorem k154_79 {d : Nat} {l0 l1 l2 l3 l4 l5 l6 l7 l8 : Option PV} {st : List PV} {M : Mem} {Q : Option PV → Mem → Prop} {x y : Int64} : WP d 154 79 [l0, l1, l2, l3, l4, l5, l6, l7, l8] (vl y :: vl x :: st) M Q = WP d 154 80 [l0, l1, l2, l3, l4, l5, l6, l7, l8] (vl (x + y) :: st) M Q := w1 mC_154 d154_79 rfl rfl
theorem d154_80 : decode cX12_frogs 80 = .ok (.aload_n 0, 1) := by decide +kernel
theorem k154_80 {d x : Nat} {l1 l2 l3 l4 l5 l6 l7 l8 : Option PV} {st : List PV} {M : Mem} {Q : Option PV → Mem → Prop} : WP d 154 80 [some (vr x), l1, l2, l3, l4, l5, l6, l7, l8] (st) M Q = WP d 154 81 [some (vr x), l1, l2, l3, l4, l5, l6, l7, l8] (vr x :: st) M Q := w1 mC_154 d154_80 rfl rfl
theorem d154_81 : decode cX12_frogs 81 = .ok (.getfield 72, 3) := by decide +kernel
theorem k154_81 {d : Nat} {l0 l1 l2 l3 l4 l5 l6 l7 l8 : Option PV} {st : List PV} {M : Mem} {Q : Option PV → Mem → Prop} {r : Nat} (hk : mK M r = 12) : WP d 154 81 [l0, l1, l2, l3, l4, l5, l6, l7, l8] (vr r :: st) M Q = WP d 154 84 [l0, l1, l2, l3, l4, l5, l6, l7, l8] (vr (mR M r 36) :: st) M Q := w_getr mC_154 d154_81 fE_12_72 rfl (by rw [hk]; rfl)
theorem d154_84 : decode cX12_frogs 84 = .ok (.iload_n 1, 1) := by decide +kernel
theorem k154_84 {d : Nat} {x : Int32} {l0 l2 l3 l4 l5 l6 l7 l8 : Option PV} {st : List PV} {M : Mem} {Q : Option PV → Mem → Prop} : WP d 154 84 [l0, some (vi x), l2, l3, l4, l5, l6, l7, l8] (st) M Q = WP d 154 85 [l0, some (vi x), l2, l3, l4, l5, l6, l7, l8] (vi x :: st) M Q := w1 mC_154 d154_84 rfl rfl
theorem d154_85 : decode cX12_frogs 85 = .ok (.iaload, 1) := by decide +kernel
theorem k154_85 {d : Nat} {l0 l1 l2 l3 l4 l5 l6 l7 l8 : Option PV} {st : List PV} {M : Mem} {Q : Option PV → Mem → Prop} {r : Nat} {j : Int32} (hk : mK M r = 13) (hj : inb j (mN M r)) (h1 : r ≠ 1) : WP d 154 85 [l0, l1, l2, l3, l4, l5, l6, l7, l8] (vi j :: vr r :: st) M Q = WP d 154 86 [l0, l1, l2, l3, l4, l5, l6, l7, l8] (vi (mI M r (ix j)) :: st) M Q := w_iald mC_154 d154_85 (by decide) hk hj h1
theorem d154_86 : decode cX12_frogs 86 = .ok (.i2l, 1) := by decide +kernel
theorem k154_86 {d : Nat} {l0 l1 l2 l3 l4 l5 l6 l7 l8 : Option PV} {st : List PV} {M : Mem} {Q : Option PV → Mem → Prop} {x : Int32} : WP d 154 86 [l0, l1, l2, l3, l4, l5, l6, l7, l8] (vi x :: st) M Q = WP d 154 87 [l0, l1, l2, l3, l4, l5, l6, l7, l8] (vl x.toInt64 :: st) M Q := w1 mC_154 d154_86 rfl rfl
theorem d154_87 : decode cX12_frogs 87 = .ok (.lcmp, 1) := by decide +kernel
theorem k154_87 {d : Nat} {l0 l1 l2 l3 l4 l5 l6 l7 l8 : Option PV} {st : List PV} {M : Mem} {Q : Option PV → Mem → Prop} {x y : Int64} : WP d 154 87 [l0, l1, l2, l3, l4, l5, l6, l7, l8] (vl y :: vl x :: st) M Q = WP d 154 88 [l0, l1, l2, l3, l4, l5, l6, l7, l8] (vi (lg_cmp x y) :: st) M Q := w1 mC_154 d154_87 rfl rfl
theorem d154_88 : decode cX12_frogs 88 = .ok (.ifCond .gt 12, 3) := by decide +kernel
theorem k154_88 {d : Nat} {l0 l1 l2 l3 l4 l5 l6 l7 l8 : Option PV} {st : List PV} {M : Mem} {Q : Option PV → Mem → Prop} {x : Int32} : WP d 154 88 [l0, l1, l2, l3, l4, l5, l6, l7, l8] (vi x :: st) M Q = (if 0 < x then WP d 154 100 [l0, l1, l2, l3, l4, l5, l6, l7, l8] (st) M Q else WP d 154 91 [l0, l1, l2, l3, l4, l5, l6, l7, l8] (st) M Q) := w_if_gt mC_154 d154_88 (by decide)
theorem d154_91 : decode cX12_frogs 91 = .ok (.aload_n 0, 1) := by decide +kernel
theorem k154_91 {d x : Nat} {l1 l2 l3 l4 l5 l6 l7 l8 : Option PV} {st : List PV} {M : Mem} {Q : Option PV → Mem → Prop} : WP d 154 91 [some (vr x), l1, l2, l3, l4, l5, l6, l7, l8] (st) M Q = WP d 154 92 [some (vr x), l1, l2, l3, l4, l5, l6, l7, l8] (vr x :: st) M Q := w1 mC_154 d154_91 rfl rfl
theorem d154_92 : decode cX12_frogs 92 = .ok (.getfield 108, 3) := by decide +kernel
theorem k154_92 {d : Nat} {l0 l1 l2 l3 l4 l5 l6 l7 l8 : Option PV} {st : List PV} {M : Mem} {Q : Option PV → Mem → Prop} {r : Nat} (hk : mK M r = 12) : WP d 154 92 [l0, l1, l2, l3, l4, l5, l6, l7, l8] (vr r :: st) M Q = WP d 154 95 [l0, l1, l2, l3, l4, l5, l6, l7, l8] (vi (mI M r 1) :: st) M Q := w_get mC_154 d154_92 fE_12_108 rfl (by rw [hk]; rfl)
theorem d154_95 : decode cX12_frogs 95 = .ok (.bipush 8, 2) := by decide +kernel
theorem k154_95 {d : Nat} {l0 l1 l2 l3 l4 l5 l6 l7 l8 : Option PV} {st : List PV} {M : Mem} {Q : Option PV → Mem → Prop} : WP d 154 95 [l0, l1, l2, l3, l4, l5, l6, l7, l8] (st) M Q = WP d 154 97 [l0, l1, l2, l3, l4, l5, l6, l7, l8] (vi 8 :: st) M Q := w_bipush mC_154 d154_95 (by decide)
theorem d154_97 : decode cX12_frogs 97 = .ok (.if_icmp .ne 6, 3) := by decide +kernel
theorem k154_97 {d : Nat} {l0 l1 l2 l3 l4 l5 l6 l7 l8 : Option PV} {st : List PV} {M : Mem} {Q : Option PV → Mem → Prop} {x y : Int32} : WP d 154 97 [l0, l1, l2, l3, l4, l5, l6, l7, l8] (vi y :: vi x :: st) M Q = (if x = y then WP d 154 100 [l0, l1, l2, l3, l4, l5, l6, l7, l8] (st) M Q else WP d 154 103 [l0, l1, l2, l3, l4, l5, l6, l7, l8] (st) M Q) := w_ic_ne mC_154 d154_97 (by decide)
theorem d154_100 : decode cX12_frogs 100 = .ok (.iload 4, 2) := by decide +kernel
theorem k154_100 {d : Nat} {x : Int32} {l0 l1 l2 l3 l5 l6 l7 l8 : Option PV} {st : List PV} {M : Mem} {Q : Option PV → Mem → Prop} : WP d 154 100 [l0, l1, l2, l3, some (vi x), l5, l6, l7, l8] (st) M Q = WP d 154 102 [l0, l1, l2, l3, some (vi x), l5, l6, l7, l8] (vi x :: st) M Q := w1 mC_154 d154_100 rfl rfl
theorem d154_102 : decode cX12_frogs 102 = .ok (.ireturn, 1) := by decide +kernel
theorem k154_102 {d : Nat} {l0 l1 l2 l3 l4 l5 l6 l7 l8 : Option PV} {M : Mem} {Q : Option PV → Mem → Prop} {x : Int32} : WP d 154 102 [l0, l1, l2, l3, l4, l5, l6, l7, l8] ([vi x]) M Q = Q (some (vi x)) M := w_iret mC_154 d154_102 rfl
theorem d154_103 : decode cX12_frogs 103 = .ok (.lload 6, 2) := by decide +kernel
theorem k154_103 {d : Nat} {x : Int64} {l0 l1 l2 l3 l4 l5 l8 : Option PV} {st : List PV} {M : Mem} {Q : Option PV → Mem → Prop} : WP d 154 103 [l0, l1, l2, l3, l4, l5, some (vl x), none, l8] (st) M Q = WP d 154 105 [l0, l1, l2, l3, l4, l5, some (vl x), none, l8] (vl x :: st) M Q := w1 mC_154 d154_103 rfl rfl
theorem d154_105 : decode cX12_frogs 105 = .ok (.l2i, 1) := by decide +kernel
theorem k154_105 {d : Nat} {l0 l1 l2 l3 l4 l5 l6 l7 l8 : Option PV} {st : List PV} {M : Mem} {Q : Option PV → Mem → Prop} {x : Int64} : WP d 154 105 [l0, l1, l2, l3, l4, l5, l6, l7, l8] (vl x :: st) M Q = WP d 154 106 [l0, l1, l2, l3, l4, l5, l6, l7, l8] (vi x.toInt32 :: st) M Q := w1 mC_154 d154_105 rfl rfl
theorem d154_106 : decode cX12_frogs 106 = .ok (.istore 8, 2) := by decide +kernel
theorem k154_106 {d : Nat} {l0 l1 l2 l3 l4 l5 l6 l7 l8 : Option PV} {st : List PV} {M : Mem} {Q : Option PV → Mem → Prop} {x : Int32} : WP d 154 106 [l0, l1, l2, l3, l4, l5, l6, l7, l8] (vi x :: st) M Q = WP d 154 108 [l0, l1, l2, l3, l4, l5, l6, l7, some (vi x)] (st) M Q := w1 mC_154 d154_106 rfl rfl
theorem d154_108 : decode cX12_frogs 108 = .ok (.aload_n 0, 1) := by decide +kernel
theorem k154_108 {d x : Nat} {l1 l2 l3 l4 l5 l6 l7 l8 : Option PV} {st : List PV} {M : Mem} {Q : Option PV → Mem → Prop} : WP d 154 108 [some (vr x), l1, l2, l3, l4, l5, l6, l7, l8] (st) M Q = WP d 154 109 [some (vr x), l1, l2, l3, l4, l5, l6, l7, l8] (vr x :: st) M Q := w1 mC_154 d154_108 rfl rfl
theorem d154_109 : decode cX12_frogs 109 = .ok (.iload_n 1, 1) := by decide +kernel
theorem k154_109 {d : Nat} {x : Int32} {l0 l2 l3 l4 l5 l6 l7 l8 : Option PV} {st : List PV} {M : Mem} {Q : Option PV → Mem → Prop} : WP d 154 109 [l0, some (vi x), l2, l3, l4, l5, l6, l7, l8] (st) M Q = WP d 154 110 [l0, some (vi x), l2, l3, l4, l5, l6, l7, l8] (vi x :: st) M Q := w1 mC_154 d154_109 rfl rfl
theorem d154_110 : decode cX12_frogs 110 = .ok (.iload 8, 2) := by decide +kernel
theorem k154_110 {d : Nat} {x : Int32} {l0 l1 l2 l3 l4 l5 l6 l7 : Option PV} {st : List PV} {M : Mem} {Q : Option PV → Mem → Prop} : WP d 154 110 [l0, l1, l2, l3, l4, l5, l6, l7, some (vi x)] (st) M Q = WP d 154 112 [l0, l1, l2, l3, l4, l5, l6, l7, some (vi x)] (vi x :: st) M Q := w1 mC_154 d154_110 rfl rfl
theorem d154_112 : decode cX12_frogs 112 = .ok (.invokevirtual 127, 3) := by decide +kernel
theorem k154_112 {d : Nat} {l0 l1 l2 l3 l4 l5 l6 l7 l8 : Option PV} {st : List PV} {M : Mem} {Q : Option PV → Mem → Prop} {a0 a1 : Int32} {r : Nat} (hl : szL st ≤ 8) (hk : mK M r = 12) : WP (d + 1) 154 112 [l0, l1, l2, l3, l4, l5, l6, l7, l8] (vi a1 :: vi a0 :: vr r :: st) M Q = WP d 155 0 [some (vr r), some (vi a0), some (vi a1)] [] M (fun v M' => WP (d + 1) 154 115 [l0, l1, l2, l3, l4, l5, l6, l7, l8] (psh v st) M' Q) := w_callV mC_154 d154_112 (ci := 12) rfl rfl rfl (Nat.le_of_ble_eq_true rfl) (by decide) rfl hl hk
theorem d154_115 : decode cX12_frogs 115 = .ok (.invokestatic 111, 3) := by decide +kernel
theorem k154_115 {d : Nat} {l0 l1 l2 l3 l4 l5 l6 l7 l8 : Option PV} {st : List PV} {M : Mem} {Q : Option PV → Mem → Prop} {a0 : Int32} (hl : szL st ≤ 8) : WP (d + 1) 154 115 [l0, l1, l2, l3, l4, l5, l6, l7, l8] (vi a0 :: st) M Q = WP d 148 0 [some (vi a0)] [] M (fun v M' => WP (d + 1) 154 118 [l0, l1, l2, l3, l4, l5, l6, l7, l8] (psh v st) M' Q) := w_callS mC_154 d154_115 rfl rfl (Nat.le_of_ble_eq_true rfl) (by decide) rfl hl
theorem d154_118 : decode cX12_frogs 118 = .ok (.ifCond .eq 55, 3) := by decide +kernel
theorem k154_118 {d : Nat} {l0 l1 l2 l3 l4 l5 l6 l7 l8 : Option PV} {st : List PV} {M : Mem} {Q : Option PV → Mem → Prop} {x : Int32} : WP d 154 118 [l0, l1, l2, l3, l4, l5, l6, l7, l8] (vi x :: st) M Q = (if x = 0 then WP d 154 173 [l0, l1, l2, l3, l4, l5, l6, l7, l8] (st) M Q else WP d 154 121 [l0, l1, l2, l3, l4, l5, l6, l7, l8] (st) M Q) := w_if_eq mC_154 d154_118 (by decide)
theorem d154_121 : decode cX12_frogs 121 = .ok (.aload_n 0, 1) := by decide +kernel
theorem k154_121 {d x : Nat} {l1 l2 l3 l4 l5 l6 l7 l8 : Option PV} {st : List PV} {M : Mem} {Q : Option PV → Mem → Prop} : WP d 154 121 [some (vr x), l1, l2, l3, l4, l5, l6, l7, l8] (st) M Q = WP d 154 122 [some (vr x), l1, l2, l3, l4, l5, l6, l7, l8] (vr x :: st) M Q := w1 mC_154 d154_121 rfl rfl
theorem d154_122 : decode cX12_frogs 122 = .ok (.iload_n 1, 1) := by decide +kernel
theorem k154_122 {d : Nat} {x : Int32} {l0 l2 l3 l4 l5 l6 l7 l8 : Option PV} {st : List PV} {M : Mem} {Q : Option PV → Mem → Prop} : WP d 154 122 [l0, some (vi x), l2, l3, l4, l5, l6, l7, l8] (st) M Q = WP d 154 123 [l0, some (vi x), l2, l3, l4, l5, l6, l7, l8] (vi x :: st) M Q := w1 mC_154 d154_122 rfl rfl
theorem d154_123 : decode cX12_frogs 123 = .ok (.iload 8, 2) := by decide +kernel
theorem k154_123 {d : Nat} {x : Int32} {l0 l1 l2 l3 l4 l5 l6 l7 : Option PV} {st : List PV} {M : Mem} {Q : Option PV → Mem → Prop} : WP d 154 123 [l0, l1, l2, l3, l4, l5, l6, l7, some (vi x)] (st) M Q = WP d 154 125 [l0, l1, l2, l3, l4, l5, l6, l7, some (vi x)] (vi x :: st) M Q := w1 mC_154 d154_123 rfl rfl
theorem d154_125 : decode cX12_frogs 125 = .ok (.iconst 1, 1) := by decide +kernel
theorem k154_125 {d : Nat} {l0 l1 l2 l3 l4 l5 l6 l7 l8 : Option PV} {st : List PV} {M : Mem} {Q : Option PV → Mem → Prop} : WP d 154 125 [l0, l1, l2, l3, l4, l5, l6, l7, l8] (st) M Q = WP d 154 126 [l0, l1, l2, l3, l4, l5, l6, l7, l8] (vi 1 :: st) M Q := w_iconst mC_154 d154_125 (by decide)
theorem d154_126 : decode cX12_frogs 126 = .ok (.iadd, 1) := by decide +kernel
theorem k154_126 {d : Nat} {l0 l1 l2 l3 l4 l5 l6 l7 l8 : Option PV} {st : List PV} {M : Mem} {Q : Option PV → Mem → Prop} {x y : Int32} : WP d 154 126 [l0, l1, l2, l3, l4, l5, l6, l7, l8] (vi y :: vi x :: st) M Q = WP d 154 127 [l0, l1, l2, l3, l4, l5, l6, l7, l8] (vi (x + y) :: st) M Q := w1 mC_154 d154_126 rfl rfl
theorem d154_127 : decode cX12_frogs 127 = .ok (.invokevirtual 127, 3) := by decide +kernel
theorem k154_127 {d : Nat} {l0 l1 l2 l3 l4 l5 l6 l7 l8 : Option PV} {st : List PV} {M : Mem} {Q : Option PV → Mem → Prop} {a0 a1 : Int32} {r : Nat} (hl : szL st ≤ 8) (hk : mK M r = 12) : WP (d + 1) 154 127 [l0, l1, l2, l3, l4, l5, l6, l7, l8] (vi a1 :: vi a0 :: vr r :: st) M Q = WP d 155 0 [some (vr r), some (vi a0), some (vi a1)] [] M (fun v M' => WP (d + 1) 154 130 [l0, l1, l2, l3, l4, l5, l6, l7, l8] (psh v st) M' Q) := w_callV mC_154 d154_127 (ci := 12) rfl rfl rfl (Nat.le_of_ble_eq_true rfl) (by decide) rfl hl hk
theorem d154_130 : decode cX12_frogs 130 = .ok (.iconst 0, 1) := by decide +kernel
theorem k154_130 {d : Nat} {l0 l1 l2 l3 l4 l5 l6 l7 l8 : Option PV} {st : List PV} {M : Mem} {Q : Option PV → Mem → Prop} : WP d 154 130 [l0, l1, l2, l3, l4, l5, l6, l7, l8] (st) M Q = WP d 154 131 [l0, l1, l2, l3, l4, l5, l6, l7, l8] (vi 0 :: st) M Q := w_iconst mC_154 d154_130 (by decide)
theorem d154_131 : decode cX12_frogs 131 = .ok (.bipush 9, 2) := by decide +kernel
theorem k154_131 {d : Nat} {l0 l1 l2 l3 l4 l5 l6 l7 l8 : Option PV} {st : List PV} {M : Mem} {Q : Option PV → Mem → Prop} : WP d 154 131 [l0, l1, l2, l3, l4, l5, l6, l7, l8] (st) M Q = WP d 154 133 [l0, l1, l2, l3, l4, l5, l6, l7, l8] (vi 9 :: st) M Q := w_bipush mC_154 d154_131 (by decide)
theorem d154_133 : decode cX12_frogs 133 = .ok (.invokestatic 104, 3) := by decide +kernel
theorem k154_133 {d : Nat} {l0 l1 l2 l3 l4 l5 l6 l7 l8 : Option PV} {st : List PV} {M : Mem} {Q : Option PV → Mem → Prop} {a0 a1 a2 : Int32} (hl : szL st ≤ 8) : WP (d + 1) 154 133 [l0, l1, l2, l3, l4, l5, l6, l7, l8] (vi a2 :: vi a1 :: vi a0 :: st) M Q = WP d 145 0 [some (vi a0), some (vi a1), some (vi a2)] [] M (fun v M' => WP (d + 1) 154 136 [l0, l1, l2, l3, l4, l5, l6, l7, l8] (psh v st) M' Q) := w_callS mC_154 d154_133 rfl rfl (Nat.le_of_ble_eq_true rfl) (by decide) rfl hl
theorem d154_136 : decode cX12_frogs 136 = .ok (.ifCond .eq 37, 3) := by decide +kernel
theorem k154_136 {d : Nat} {l0 l1 l2 l3 l4 l5 l6 l7 l8 : Option PV} {st : List PV} {M : Mem} {Q : Option PV → Mem → Prop} {x : Int32} : WP d 154 136 [l0, l1, l2, l3, l4, l5, l6, l7, l8] (vi x :: st) M Q = (if x = 0 then WP d 154 173 [l0, l1, l2, l3, l4, l5, l6, l7, l8] (st) M Q else WP d 154 139 [l0, l1, l2, l3, l4, l5, l6, l7, l8] (st) M Q) := w_if_eq mC_154 d154_136 (by decide)
theorem d154_139 : decode cX12_frogs 139 = .ok (.aload_n 0, 1) := by decide +kernel
theorem k154_139 {d x : Nat} {l1 l2 l3 l4 l5 l6 l7 l8 : Option PV} {st : List PV} {M : Mem} {Q : Option PV → Mem → Prop} : WP d 154 139 [some (vr x), l1, l2, l3, l4, l5, l6, l7, l8] (st) M Q = WP d 154 140 [some (vr x), l1, l2, l3, l4, l5, l6, l7, l8] (vr x :: st) M Q := w1 mC_154 d154_139 rfl rfl
theorem d154_140 : decode cX12_frogs 140 = .ok (.aload_n 0, 1) := by decide +kernel
theorem k154_140 {d x : Nat} {l1 l2 l3 l4 l5 l6 l7 l8 : Option PV} {st : List PV} {M : Mem} {Q : Option PV → Mem → Prop} : WP d 154 140 [some (vr x), l1, l2, l3, l4, l5, l6, l7, l8] (st) M Q = WP d 154 141 [some (vr x), l1, l2, l3, l4, l5, l6, l7, l8] (vr x :: st) M Q := w1 mC_154 d154_140 rfl rfl
theorem d154_141 : decode cX12_frogs 141 = .ok (.iload_n 1, 1) := by decide +kernel
theorem k154_141 {d : Nat} {x : Int32} {l0 l2 l3 l4 l5 l6 l7 l8 : Option PV} {st : List PV} {M : Mem} {Q : Option PV → Mem → Prop} : WP d 154 141 [l0, some (vi x), l2, l3, l4, l5, l6, l7, l8] (st) M Q = WP d 154 142 [l0, some (vi x), l2, l3, l4, l5, l6, l7, l8] (vi x :: st) M Q := w1 mC_154 d154_141 rfl rfl
theorem d154_142 : decode cX12_frogs 142 = .ok (.iload 8, 2) := by decide +kernel
theorem k154_142 {d : Nat} {x : Int32} {l0 l1 l2 l3 l4 l5 l6 l7 : Option PV} {st : List PV} {M : Mem} {Q : Option PV → Mem → Prop} : WP d 154 142 [l0, l1, l2, l3, l4, l5, l6, l7, some (vi x)] (st) M Q = WP d 154 144 [l0, l1, l2, l3, l4, l5, l6, l7, some (vi x)] (vi x :: st) M Q := w1 mC_154 d154_142 rfl rfl
theorem d154_144 : decode cX12_frogs 144 = .ok (.iconst 2, 1) := by decide +kernel
theorem k154_144 {d : Nat} {l0 l1 l2 l3 l4 l5 l6 l7 l8 : Option PV} {st : List PV} {M : Mem} {Q : Option PV → Mem → Prop} : WP d 154 144 [l0, l1, l2, l3, l4, l5, l6, l7, l8] (st) M Q = WP d 154 145 [l0, l1, l2, l3, l4, l5, l6, l7, l8] (vi 2 :: st) M Q := w_iconst mC_154 d154_144 (by decide)
theorem d154_145 : decode cX12_frogs 145 = .ok (.iadd, 1) := by decide +kernel
theorem k154_145 {d : Nat} {l0 l1 l2 l3 l4 l5 l6 l7 l8 : Option PV} {st : List PV} {M : Mem} {Q : Option PV → Mem → Prop} {x y : Int32} : WP d 154 145 [l0, l1, l2, l3, l4, l5, l6, l7, l8] (vi y :: vi x :: st) M Q = WP d 154 146 [l0, l1, l2, l3, l4, l5, l6, l7, l8] (vi (x + y) :: st) M Q := w1 mC_154 d154_145 rfl rfl
theorem d154_146 : decode cX12_frogs 146 = .ok (.invokevirtual 127, 3) := by decide +kernel
theorem k154_146 {d : Nat} {l0 l1 l2 l3 l4 l5 l6 l7 l8 : Option PV} {st : List PV} {M : Mem} {Q : Option PV → Mem → Prop} {a0 a1 : Int32} {r : Nat} (hl : szL st ≤ 8) (hk : mK M r = 12) : WP (d + 1) 154 146 [l0, l1, l2, l3, l4, l5, l6, l7, l8] (vi a1 :: vi a0 :: vr r :: st) M Q = WP d 155 0 [some (vr r), some (vi a0), some (vi a1)] [] M (fun v M' => WP (d + 1) 154 149 [l0, l1, l2, l3, l4, l5, l6, l7, l8] (psh v st) M' Q) := w_callV mC_154 d154_146 (ci := 12) rfl rfl rfl (Nat.le_of_ble_eq_true rfl) (by decide) rfl hl hk
theorem d154_149 : decode cX12_frogs 149 = .ok (.invokevirtual 131, 3) := by decide +kernel
theorem k154_149 {d : Nat} {l0 l1 l2 l3 l4 l5 l6 l7 l8 : Option PV} {st : List PV} {M : Mem} {Q : Option PV → Mem → Prop} {a0 : Int32} {r : Nat} (hl : szL st ≤ 8) (hk : mK M r = 12) : WP (d + 1) 154 149 [l0, l1, l2, l3, l4, l5, l6, l7, l8] (vi a0 :: vr r :: st) M Q = WP d 153 0 [some (vr r), some (vi a0)] [] M (fun v M' => WP (d + 1) 154 152 [l0, l1, l2, l3, l4, l5, l6, l7, l8] (psh v st) M' Q) := w_callV mC_154 d154_149 (ci := 12) rfl rfl rfl (Nat.le_of_ble_eq_true rfl) (by decide) rfl hl hk
theorem d154_152 : decode cX12_frogs 152 = .ok (.ifCond .eq 21, 3) := by decide +kernel
theorem k154_152 {d : Nat} {l0 l1 l2 l3 l4 l5 l6 l7 l8 : Option PV} {st : List PV} {M : Mem} {Q : Option PV → Mem → Prop} {x : Int32} : WP d 154 152 [l0, l1, l2, l3, l4, l5, l6, l7, l8] (vi x :: st) M Q = (if x = 0 then WP d 154 173 [l0, l1, l2, l3, l4, l5, l6, l7, l8] (st) M Q else WP d 154 155 [l0, l1, l2, l3, l4, l5, l6, l7, l8] (st) M Q) := w_if_eq mC_154 d154_152 (by decide)
theorem d154_155 : decode cX12_frogs 155 = .ok (.aload_n 0, 1) := by decide +kernel
theorem k154_155 {d x : Nat} {l1 l2 l3 l4 l5 l6 l7 l8 : Option PV} {st : List PV} {M : Mem} {Q : Option PV → Mem → Prop} : WP d 154 155 [some (vr x), l1, l2, l3, l4, l5, l6, l7, l8] (st) M Q = WP d 154 156 [some (vr x), l1, l2, l3, l4, l5, l6, l7, l8] (vr x :: st) M Q := w1 mC_154 d154_155 rfl rfl
theorem d154_156 : decode cX12_frogs 156 = .ok (.iload_n 1, 1) := by decide +kernel
theorem k154_156 {d : Nat} {x : Int32} {l0 l2 l3 l4 l5 l6 l7 l8 : Option PV} {st : List PV} {M : Mem} {Q : Option PV → Mem → Prop} : WP d 154 156 [l0, some (vi x), l2, l3, l4, l5, l6, l7, l8] (st) M Q = WP d 154 157 [l0, some (vi x), l2, l3, l4, l5, l6, l7, l8] (vi x :: st) M Q := w1 mC_154 d154_156 rfl rfl
theorem d154_157 : decode cX12_frogs 157 = .ok (.iload 8, 2) := by decide +kernel
theorem k154_157 {d : Nat} {x : Int32} {l0 l1 l2 l3 l4 l5 l6 l7 : Option PV} {st : List PV} {M : Mem} {Q : Option PV → Mem → Prop} : WP d 154 157 [l0, l1, l2, l3, l4, l5, l6, l7, some (vi x)] (st) M Q = WP d 154 159 [l0, l1, l2, l3, l4, l5, l6, l7, some (vi x)] (vi x :: st) M Q := w1 mC_154 d154_157 rfl rfl
theorem d154_159 : decode cX12_frogs 159 = .ok (.iconst 3, 1) := by decide +kernel
theorem k154_159 {d : Nat} {l0 l1 l2 l3 l4 l5 l6 l7 l8 : Option PV} {st : List PV} {M : Mem} {Q : Option PV → Mem → Prop} : WP d 154 159 [l0, l1, l2, l3, l4, l5, l6, l7, l8] (st) M Q = WP d 154 160 [l0, l1, l2, l3, l4, l5, l6, l7, l8] (vi 3 :: st) M Q := w_iconst mC_154 d154_159 (by decide)
theorem d154_160 : decode cX12_frogs 160 = .ok (.iadd, 1) := by decide +kernel
theorem k154_160 {d : Nat} {l0 l1 l2 l3 l4 l5 l6 l7 l8 : Option PV} {st : List PV} {M : Mem} {Q : Option PV → Mem → Prop} {x y : Int32} : WP d 154 160 [l0, l1, l2, l3, l4, l5, l6, l7, l8] (vi y :: vi x :: st) M Q = WP d 154 161 [l0, l1, l2, l3, l4, l5, l6, l7, l8] (vi (x + y) :: st) M Q := w1 mC_154 d154_160 rfl rfl
theorem d154_161 : decode cX12_frogs 161 = .ok (.invokevirtual 127, 3) := by decide +kernel
theorem k154_161 {d : Nat} {l0 l1 l2 l3 l4 l5 l6 l7 l8 : Option PV} {st : List PV} {M : Mem} {Q : Option PV → Mem → Prop} {a0 a1 : Int32} {r : Nat} (hl : szL st ≤ 8) (hk : mK M r = 12) : WP (d + 1) 154 161 [l0, l1, l2, l3, l4, l5, l6, l7, l8] (vi a1 :: vi a0 :: vr r :: st) M Q = WP d 155 0 [some (vr r), some (vi a0), some (vi a1)] [] M (fun v M' => WP (d + 1) 154 164 [l0, l1, l2, l3, l4, l5, l6, l7, l8] (psh v st) M' Q) := w_callV mC_154 d154_161 (ci := 12) rfl rfl rfl (Nat.le_of_ble_eq_true rfl) (by decide) rfl hl hk
theorem d154_164 : decode cX12_frogs 164 = .ok (.iconst 0, 1) := by decide +kernel
theorem k154_164 {d : Nat} {l0 l1 l2 l3 l4 l5 l6 l7 l8 : Option PV} {st : List PV} {M : Mem} {Q : Option PV → Mem → Prop} : WP d 154 164 [l0, l1, l2, l3, l4, l5, l6, l7, l8] (st) M Q = WP d 154 165 [l0, l1, l2, l3, l4, l5, l6, l7, l8] (vi 0 :: st) M Q := w_iconst mC_154 d154_164 (by decide)
theorem d154_165 : decode cX12_frogs 165 = .ok (.bipush 99, 2) := by decide +kernel
theorem k154_165 {d : Nat} {l0 l1 l2 l3 l4 l5 l6 l7 l8 : Option PV} {st : List PV} {M : Mem} {Q : Option PV → Mem → Prop} : WP d 154 165 [l0, l1, l2, l3, l4, l5, l6, l7, l8] (st) M Q = WP d 154 167 [l0, l1, l2, l3, l4, l5, l6, l7, l8] (vi 99 :: st) M Q := w_bipush mC_154 d154_165 (by decide)
theorem d154_167 : decode cX12_frogs 167 = .ok (.invokestatic 104, 3) := by decide +kernel
theorem k154_167 {d : Nat} {l0 l1 l2 l3 l4 l5 l6 l7 l8 : Option PV} {st : List PV} {M : Mem} {Q : Option PV → Mem → Prop} {a0 a1 a2 : Int32} (hl : szL st ≤ 8) : WP (d + 1) 154 167 [l0, l1, l2, l3, l4, l5, l6, l7, l8] (vi a2 :: vi a1 :: vi a0 :: st) M Q = WP d 145 0 [some (vi a0), some (vi a1), some (vi a2)] [] M (fun v M' => WP (d + 1) 154 170 [l0, l1, l2, l3, l4, l5, l6, l7, l8] (psh v st) M' Q) := w_callS mC_154 d154_167 rfl rfl (Nat.le_of_ble_eq_true rfl) (by decide) rfl hl
theorem d154_170 : decode cX12_frogs 170 = .ok (.ifCond .ne 6, 3) := by decide +kernel
theorem k154_170 {d : Nat} {l0 l1 l2 l3 l4 l5 l6 l7 l8 : Option PV} {st : List PV} {M : Mem} {Q : Option PV → Mem → Prop} {x : Int32} : WP d 154 170 [l0, l1, l2, l3, l4, l5, l6, l7, l8] (vi x :: st) M Q = (if x = 0 then WP d 154 173 [l0, l1, l2, l3, l4, l5, l6, l7, l8] (st) M Q else WP d 154 176 [l0, l1, l2, l3, l4, l5, l6, l7, l8] (st) M Q) := w_if_ne mC_154 d154_170 (by decide)
theorem d154_173 : decode cX12_frogs 173 = .ok (.iload 4, 2) := by decide +kernel
theorem k154_173 {d : Nat} {x : Int32} {l0 l1 l2 l3 l5 l6 l7 l8 : Option PV} {st : List PV} {M : Mem} {Q : Option PV → Mem → Prop} : WP d 154 173 [l0, l1, l2, l3, some (vi x), l5, l6, l7, l8] (st) M Q = WP d 154 175 [l0, l1, l2, l3, some (vi x), l5, l6, l7, l8] (vi x :: st) M Q := w1 mC_154 d154_173 rfl rfl
theorem d154_175 : decode cX12_frogs 175 = .ok (.ireturn, 1) := by decide +kernel
theorem k154_175 {d : Nat} {l0 l1 l2 l3 l4 l5 l6 l7 l8 : Option PV} {M : Mem} {Q : Option PV → Mem → Prop} {x : Int32} : WP d 154 175 [l0, l1, l2, l3, l4, l5, l6, l7, l8] ([vi x]) M Q = Q (some (vi x)) M := w_iret mC_154 d154_175 rfl
theorem d154_176 : decode cX12_frogs 176 = .ok (.aload_n 0, 1) := by decide +kernel
theorem k154_176 {d x : Nat} {l1 l2 l3 l4 l5 l6 l7 l8 : Option PV} {st : List PV} {M : Mem} {Q : Option PV → Mem → Prop} : WP d 154 176 [some (vr x), l1, l2, l3, l4, l5, l6, l7, l8] (st) M Q = WP d 154 177 [some (vr x), l1, l2, l3, l4, l5, l6, l7, l8] (vr x :: st) M Q := w1 mC_154 d154_176 rfl rfl
theorem d154_177 : decode cX12_frogs 177 = .ok (.aload_n 0, 1) := by decide +kernel
theorem k154_177 {d x : Nat} {l1 l2 l3 l4 l5 l6 l7 l8 : Option PV} {st : List PV} {M : Mem} {Q : Option PV → Mem → Prop} : WP d 154 177 [some (vr x), l1, l2, l3, l4, l5, l6, l7, l8] (st) M Q = WP d 154 178 [some (vr x), l1, l2, l3, l4, l5, l6, l7, l8] (vr x :: st) M Q := w1 mC_154 d154_177 rfl rfl
theorem d154_178 : decode cX12_frogs 178 = .ok (.iload_n 1, 1) := by decide +kernel
theorem k154_178 {d : Nat} {x : Int32} {l0 l2 l3 l4 l5 l6 l7 l8 : Option PV} {st : List PV} {M : Mem} {Q : Option PV → Mem → Prop} : WP d 154 178 [l0, some (vi x), l2, l3, l4, l5, l6, l7, l8] (st) M Q = WP d 154 179 [l0, some (vi x), l2, l3, l4, l5, l6, l7, l8] (vi x :: st) M Q := w1 mC_154 d154_178 rfl rfl
theorem d154_179 : decode cX12_frogs 179 = .ok (.iload 8, 2) := by decide +kernel
theorem k154_179 {d : Nat} {x : Int32} {l0 l1 l2 l3 l4 l5 l6 l7 : Option PV} {st : List PV} {M : Mem} {Q : Option PV → Mem → Prop} : WP d 154 179 [l0, l1, l2, l3, l4, l5, l6, l7, some (vi x)] (st) M Q = WP d 154 181 [l0, l1, l2, l3, l4, l5, l6, l7, some (vi x)] (vi x :: st) M Q := w1 mC_154 d154_179 rfl rfl
theorem d154_181 : decode cX12_frogs 181 = .ok (.invokevirtual 127, 3) := by decide +kernel
theorem k154_181 {d : Nat} {l0 l1 l2 l3 l4 l5 l6 l7 l8 : Option PV} {st : List PV} {M : Mem} {Q : Option PV → Mem → Prop} {a0 a1 : Int32} {r : Nat} (hl : szL st ≤ 8) (hk : mK M r = 12) : WP (d + 1) 154 181 [l0, l1, l2, l3, l4, l5, l6, l7, l8] (vi a1 :: vi a0 :: vr r :: st) M Q = WP d 155 0 [some (vr r), some (vi a0), some (vi a1)] [] M (fun v M' => WP (d + 1) 154 184 [l0, l1, l2, l3, l4, l5, l6, l7, l8] (psh v st) M' Q) := w_callV mC_154 d154_181 (ci := 12) rfl rfl rfl (Nat.le_of_ble_eq_true rfl) (by decide) rfl hl hk
theorem d154_184 : decode cX12_frogs 184 = .ok (.aload_n 0, 1) := by decide +kernel
theorem k154_184 {d x : Nat} {l1 l2 l3 l4 l5 l6 l7 l8 : Option PV} {st : List PV} {M : Mem} {Q : Option PV → Mem → Prop} : WP d 154 184 [some (vr x), l1, l2, l3, l4, l5, l6, l7, l8] (st) M Q = WP d 154 185 [some (vr x), l1, l2, l3, l4, l5, l6, l7, l8] (vr x :: st) M Q := w1 mC_154 d154_184 rfl rfl
theorem d154_185 : decode cX12_frogs 185 = .ok (.iload_n 1, 1) := by decide +kernel
theorem k154_185 {d : Nat} {x : Int32} {l0 l2 l3 l4 l5 l6 l7 l8 : Option PV} {st : List PV} {M : Mem} {Q : Option PV → Mem → Prop} : WP d 154 185 [l0, some (vi x), l2, l3, l4, l5, l6, l7, l8] (st) M Q = WP d 154 186 [l0, some (vi x), l2, l3, l4, l5, l6, l7, l8] (vi x :: st) M Q := w1 mC_154 d154_185 rfl rfl
theorem d154_186 : decode cX12_frogs 186 = .ok (.iload 8, 2) := by decide +kernel
theorem k154_186 {d : Nat} {x : Int32} {l0 l1 l2 l3 l4 l5 l6 l7 : Option PV} {st : List PV} {M : Mem} {Q : Option PV → Mem → Prop} : WP d 154 186 [l0, l1, l2, l3, l4, l5, l6, l7, some (vi x)] (st) M Q = WP d 154 188 [l0, l1, l2, l3, l4, l5, l6, l7, some (vi x)] (vi x :: st) M Q := w1 mC_154 d154_186 rfl rfl
theorem d154_188 : decode cX12_frogs 188 = .ok (.iconst 1, 1) := by decide +kernel
theorem k154_188 {d : Nat} {l0 l1 l2 l3 l4 l5 l6 l7 l8 : Option PV} {st : List PV} {M : Mem} {Q : Option PV → Mem → Prop} : WP d 154 188 [l0, l1, l2, l3, l4, l5, l6, l7, l8] (st) M Q = WP d 154 189 [l0, l1, l2, l3, l4, l5, l6, l7, l8] (vi 1 :: st) M Q := w_iconst mC_154 d154_188 (by decide)
theorem d154_189 : decode cX12_frogs 189 = .ok (.iadd, 1) := by decide +kernel
theorem k154_189 {d : Nat} {l0 l1 l2 l3 l4 l5 l6 l7 l8 : Option PV} {st : List PV} {M : Mem} {Q : Option PV → Mem → Prop} {x y : Int32} : WP d 154 189 [l0, l1, l2, l3, l4, l5, l6, l7, l8] (vi y :: vi x :: st) M Q = WP d 154 190 [l0, l1, l2, l3, l4, l5, l6, l7, l8] (vi (x + y) :: st) M Q := w1 mC_154 d154_189 rfl rfl
theorem d154_190 : decode cX12_frogs 190 = .ok (.invokevirtual 127, 3) := by decide +kernel
theorem k154_190 {d : Nat} {l0 l1 l2 l3 l4 l5 l6 l7 l8 : Option PV} {st : List PV} {M : Mem} {Q : Option PV → Mem → Prop} {a0 a1 : Int32} {r : Nat} (hl : szL st ≤ 8) (hk : mK M r = 12) : WP (d + 1) 154 190 [l0, l1, l2, l3, l4, l5, l6, l7, l8] (vi a1 :: vi a0 :: vr r :: st) M Q = WP d 155 0 [some (vr r), some (vi a0), some (vi a1)] [] M (fun v M' => WP (d + 1) 154 193 [l0, l1, l2, l3, l4, l5, l6, l7, l8] (psh v st) M' Q) := w_callV mC_154 d154_190 (ci := 12) rfl rfl rfl (Nat.le_of_ble_eq_true rfl) (by decide) rfl hl hk
theorem d154_193 : decode cX12_frogs 193 = .ok (.aload_n 0, 1) := by decide +kernel
theorem k154_193 {d x : Nat} {l1 l2 l3 l4 l5 l6 l7 l8 : Option PV} {st : List PV} {M : Mem} {Q : Option PV → Mem → Prop} : WP d 154 193 [some (vr x), l1, l2, l3, l4, l5, l6, l7, l8] (st) M Q = WP d 154 194 [some (vr x), l1, l2, l3, l4, l5, l6, l7, l8] (vr x :: st) M Q := w1 mC_154 d154_193 rfl rfl
theorem d154_194 : decode cX12_frogs 194 = .ok (.iload_n 1, 1) := by decide +kernel
theorem k154_194 {d : Nat} {x : Int32} {l0 l2 l3 l4 l5 l6 l7 l8 : Option PV} {st : List PV} {M : Mem} {Q : Option PV → Mem → Prop} : WP d 154 194 [l0, some (vi x), l2, l3, l4, l5, l6, l7, l8] (st) M Q = WP d 154 195 [l0, some (vi x), l2, l3, l4, l5, l6, l7, l8] (vi x :: st) M Q := w1 mC_154 d154_194 rfl rfl
theorem d154_195 : decode cX12_frogs 195 = .ok (.iload 8, 2) := by decide +kernel
theorem k154_195 {d : Nat} {x : Int32} {l0 l1 l2 l3 l4 l5 l6 l7 : Option PV} {st : List PV} {M : Mem} {Q : Option PV → Mem → Prop} : WP d 154 195 [l0, l1, l2, l3, l4, l5, l6, l7, some (vi x)] (st) M Q = WP d 154 197 [l0, l1, l2, l3, l4, l5, l6, l7, some (vi x)] (vi x :: st) M Q := w1 mC_154 d154_195 rfl rfl
theorem d154_197 : decode cX12_frogs 197 = .ok (.iconst 2, 1) := by decide +kernel
theorem k154_197 {d : Nat} {l0 l1 l2 l3 l4 l5 l6 l7 l8 : Option PV} {st : List PV} {M : Mem} {Q : Option PV → Mem → Prop} : WP d 154 197 [l0, l1, l2, l3, l4, l5, l6, l7, l8] (st) M Q = WP d 154 198 [l0, l1, l2, l3, l4, l5, l6, l7, l8] (vi 2 :: st) M Q := w_iconst mC_154 d154_197 (by decide)
theorem d154_198 : decode cX12_frogs 198 = .ok (.iadd, 1) := by decide +kernel
theorem k154_198 {d : Nat} {l0 l1 l2 l3 l4 l5 l6 l7 l8 : Option PV} {st : List PV} {M : Mem} {Q : Option PV → Mem → Prop} {x y : Int32} : WP d 154 198 [l0, l1, l2, l3, l4, l5, l6, l7, l8] (vi y :: vi x :: st) M Q = WP d 154 199 [l0, l1, l2, l3, l4, l5, l6, l7, l8] (vi (x + y) :: st) M Q := w1 mC_154 d154_198 rfl rfl
theorem d154_199 : decode cX12_frogs 199 = .ok (.invokevirtual 127, 3) := by decide +kernel
theorem k154_199 {d : Nat} {l0 l1 l2 l3 l4 l5 l6 l7 l8 : Option PV} {st : List PV} {M : Mem} {Q : Option PV → Mem → Prop} {a0 a1 : Int32} {r : Nat} (hl : szL st ≤ 8) (hk : mK M r = 12) : WP (d + 1) 154 199 [l0, l1, l2, l3, l4, l5, l6, l7, l8] (vi a1 :: vi a0 :: vr r :: st) M Q = WP d 155 0 [some (vr r), some (vi a0), some (vi a1)] [] M (fun v M' => WP (d + 1) 154 202 [l0, l1, l2, l3, l4, l5, l6, l7, l8] (psh v st) M' Q) := w_callV mC_154 d154_199 (ci := 12) rfl rfl rfl (Nat.le_of_ble_eq_true rfl) (by decide) rfl hl hk
theorem d154_202 : decode cX12_frogs 202 = .ok (.aload_n 0, 1) := by decide +kernel
theorem k154_202 {d x : Nat} {l1 l2 l3 l4 l5 l6 l7 l8 : Option PV} {st : List PV} {M : Mem} {Q : Option PV → Mem → Prop} : WP d 154 202 [some (vr x), l1, l2, l3, l4, l5, l6, l7, l8] (st) M Q = WP d 154 203 [some (vr x), l1, l2, l3, l4, l5, l6, l7, l8] (vr x :: st) M Q := w1 mC_154 d154_202 rfl rfl
theorem d154_203 : decode cX12_frogs 203 = .ok (.iload_n 1, 1) := by decide +kernel
theorem k154_203 {d : Nat} {x : Int32} {l0 l2 l3 l4 l5 l6 l7 l8 : Option PV} {st : List PV} {M : Mem} {Q : Option PV → Mem → Prop} : WP d 154 203 [l0, some (vi x), l2, l3, l4, l5, l6, l7, l8] (st) M Q = WP d 154 204 [l0, some (vi x), l2, l3, l4, l5, l6, l7, l8] (vi x :: st) M Q := w1 mC_154 d154_203 rfl rfl
theorem d154_204 : decode cX12_frogs 204 = .ok (.iload 8, 2) := by decide +kernel
theorem k154_204 {d : Nat} {x : Int32} {l0 l1 l2 l3 l4 l5 l6 l7 : Option PV} {st : List PV} {M : Mem} {Q : Option PV → Mem → Prop} : WP d 154 204 [l0, l1, l2, l3, l4, l5, l6, l7, some (vi x)] (st) M Q = WP d 154 206 [l0, l1, l2, l3, l4, l5, l6, l7, some (vi x)] (vi x :: st) M Q := w1 mC_154 d154_204 rfl rfl
theorem d154_206 : decode cX12_frogs 206 = .ok (.iconst 3, 1) := by decide +kernel
theorem k154_206 {d : Nat} {l0 l1 l2 l3 l4 l5 l6 l7 l8 : Option PV} {st : List PV} {M : Mem} {Q : Option PV → Mem → Prop} : WP d 154 206 [l0, l1, l2, l3, l4, l5, l6, l7, l8] (st) M Q = WP d 154 207 [l0, l1, l2, l3, l4, l5, l6, l7, l8] (vi 3 :: st) M Q := w_iconst mC_154 d154_206 (by decide)
theorem d154_207 : decode cX12_frogs 207 = .ok (.iadd, 1) := by decide +kernel
theorem k154_207 {d : Nat} {l0 l1 l2 l3 l4 l5 l6 l7 l8 : Option PV} {st : List PV} {M : Mem} {Q : Option PV → Mem → Prop} {x y : Int32} : WP d 154 207 [l0, l1, l2, l3, l4, l5, l6, l7, l8] (vi y :: vi x :: st) M Q = WP d 154 208 [l0, l1, l2, l3, l4, l5, l6, l7, l8] (vi (x + y) :: st) M Q := w1 mC_154 d154_207 rfl rfl
theorem d154_208 : decode cX12_frogs 208 = .ok (.invokevirtual 127, 3) := by decide +kernel
theorem k154_208 {d : Nat} {l0 l1 l2 l3 l4 l5 l6 l7 l8 : Option PV} {st : List PV} {M : Mem} {Q : Option PV → Mem → Prop} {a0 a1 : Int32} {r : Nat} (hl : szL st ≤ 8) (hk : mK M r = 12) : WP (d + 1) 154 208 [l0, l1, l2, l3, l4, l5, l6, l7, l8] (vi a1 :: vi a0 :: vr r :: st) M Q = WP d 155 0 [some (vr r), some (vi a0), some (vi a1)] [] M (fun v M' => WP (d + 1) 154 211 [l0, l1, l2, l3, l4, l5, l6, l7, l8] (psh v st) M' Q) := w_callV mC_154 d154_208 (ci := 12) rfl rfl rfl (Nat.le_of_ble_eq_true rfl) (by decide) rfl hl hk
theorem d154_211 : decode cX12_frogs 211 = .ok (.invokevirtual 115, 3) := by decide +kernel
theorem k154_211 {d : Nat} {l0 l1 l2 l3 l4 l5 l6 l7 l8 : Option PV} {st : List PV} {M : Mem} {Q : Option PV → Mem → Prop} {a0 a1 a2 a3 : Int32} {r : Nat} (hl : szL st ≤ 8) (hk : mK M r = 12) : WP (d + 1) 154 211 [l0, l1, l2, l3, l4, l5, l6, l7, l8] (vi a3 :: vi a2 :: vi a1 :: vi a0 :: vr r :: st) M Q = WP d 151 0 [some (vr r), some (vi a0), some (vi a1), some (vi a2), some (vi a3)] [] M (fun v M' => WP (d + 1) 154 214 [l0, l1, l2, l3, l4, l5, l6, l7, l8] (psh v st) M' Q) := w_callV mC_154 d154_211 (ci := 12) rfl rfl rfl (Nat.le_of_ble_eq_true rfl) (by decide) rfl hl hk
theorem d154_214 : decode cX12_frogs 214 = .ok (.pop, 1) := by decide +kernel
theorem k154_214 {d : Nat} {l0 l1 l2 l3 l4 l5 l6 l7 l8 : Option PV} {st : List PV} {M : Mem} {Q : Option PV → Mem → Prop} {x : Nat} : WP d 154 214 [l0, l1, l2, l3, l4, l5, l6, l7, l8] (vr x :: st) M Q = WP d 154 215 [l0, l1, l2, l3, l4, l5, l6, l7, l8] (st) M Q := w1 mC_154 d154_214 rfl rfl
theorem k154_214i {d : Nat} {l0 l1 l2 l3 l4 l5 l6 l7 l8 : Option PV} {st : List PV} {M : Mem} {Q : Option PV → Mem → Prop} {x : Int32} : WP d 154 214 [l0, l1, l2, l3, l4, l5, l6, l7, l8] (vi x :: st) M Q = WP d 154 215 [l0, l1, l2, l3, l4, l5, l6, l7, l8] (st) M Q := w1 mC_154 d154_214 rfl rfl
theorem d154_215 : decode cX12_frogs 215 = .ok (.iinc 4 1, 3) := by decide +kernel
theorem k154_215 {d : Nat} {x : Int32} {l0 l1 l2 l3 l5 l6 l7 l8 : Option PV} {st : List PV} {M : Mem} {Q : Option PV → Mem → Prop} : WP d 154 215 [l0, l1, l2, l3, some (vi x), l5, l6, l7, l8] (st) M Q = WP d 154 218 [l0, l1, l2, l3, some (vi (x + 1)), l5, l6, l7, l8] (st) M Q := w_iinc mC_154 d154_215 rfl (by decide) rfl
theorem d154_218 : decode cX12_frogs 218 = .ok (.iinc 5 1, 3) := by decide +kernel
theorem k154_218 {d : Nat} {x : Int32} {l0 l1 l2 l3 l4 l6 l7 l8 : Option PV} {st : List PV} {M : Mem} {Q : Option PV → Mem → Prop} : WP d 154 218 [l0, l1, l2, l3, l4, some (vi x), l6, l7, l8] (st) M Q = WP d 154 221 [l0, l1, l2, l3, l4, some (vi (x + 1)), l6, l7, l8] (st) M Q := w_iinc mC_154 d154_218 rfl (by decide) rfl
theorem d154_221 : decode cX12_frogs 221 = .ok (.goto (-172), 3) := by decide +kernel
theorem k154_221 {d : Nat} {l0 l1 l2 l3 l4 l5 l6 l7 l8 : Option PV} {st : List PV} {M : Mem} {Q : Option PV → Mem → Prop} : WP d 154 221 [l0, l1, l2, l3, l4, l5, l6, l7, l8] (st) M Q = WP d 154 49 [l0, l1, l2, l3, l4, l5, l6, l7, l8] (st) M Q := w_goto mC_154 d154_221 (by decide)
theorem d154_224 : decode cX12_frogs 224 = .ok (.iload 4, 2) := by decide +kernel
theorem k154_224 {d : Nat} {x : Int32} {l0 l1 l2 l3 l5 l6 l7 l8 : Option PV} {st : List PV} {M : Mem} {Q : Option PV → Mem → Prop} : WP d 154 224 [l0, l1, l2, l3, some (vi x), l5, l6, l7, l8] (st) M Q = WP d 154 226 [l0, l1, l2, l3, some (vi x), l5, l6, l7, l8] (vi x :: st) M Q := w1 mC_154 d154_224 rfl rfl
theorem d154_226 : decode cX12_frogs 226 = .ok (.ireturn, 1) := by decide +kernel
theorem k154_226 {d : Nat} {l0 l1 l2 l3 l4 l5 l6 l7 l8 : Option PV} {M : Mem} {Q : Option PV → Mem → Prop} {x : Int32} : WP d 154 226 [l0, l1, l2, l3, l4, l5, l6, l7, l8] ([vi x]) M Q = Q (some (vi x)) M := w_iret mC_154 d154_226 rfl
theorem d155_0 : decode cX12_toldAt 0 = .ok (.aload_n 0, 1) := by decide +kernel
theorem k155_0 {d x : Nat} {l1 l2 : Option PV} {st : List PV} {M : Mem} {Q : Option PV → Mem → Prop} : WP d 155 0 [some (vr x), l1, l2] (st) M Q = WP d 155 1 [some (vr x), l1, l2] (vr x :: st) M Q := w1 mC_155 d155_0 rfl rfl
theorem d155_1 : decode cX12_toldAt 1 = .ok (.getfield 75, 3) := by decide +kernel
theorem k155_1 {d : Nat} {l0 l1 l2 : Option PV} {st : List PV} {M : Mem} {Q : Option PV → Mem → Prop} {r : Nat} (hk : mK M r = 12) : WP d 155 1 [l0, l1, l2] (vr r :: st) M Q = WP d 155 4 [l0, l1, l2] (vr (mR M r 37) :: st) M Q := w_getr mC_155 d155_1 fE_12_75 rfl (by rw [hk]; rfl)
theorem d155_4 : decode cX12_toldAt 4 = .ok (.bipush 60, 2) := by decide +kernel
theorem k155_4 {d : Nat} {l0 l1 l2 : Option PV} {st : List PV} {M : Mem} {Q : Option PV → Mem → Prop} : WP d 155 4 [l0, l1, l2] (st) M Q = WP d 155 6 [l0, l1, l2] (vi 60 :: st) M Q := w_bipush mC_155 d155_4 (by decide)
theorem d155_6 : decode cX12_toldAt 6 = .ok (.iload_n 1, 1) := by decide +kernel
theorem k155_6 {d : Nat} {x : Int32} {l0 l2 : Option PV} {st : List PV} {M : Mem} {Q : Option PV → Mem → Prop} : WP d 155 6 [l0, some (vi x), l2] (st) M Q = WP d 155 7 [l0, some (vi x), l2] (vi x :: st) M Q := w1 mC_155 d155_6 rfl rfl
theorem d155_7 : decode cX12_toldAt 7 = .ok (.imul, 1) := by decide +kernel
theorem k155_7 {d : Nat} {l0 l1 l2 : Option PV} {st : List PV} {M : Mem} {Q : Option PV → Mem → Prop} {x y : Int32} : WP d 155 7 [l0, l1, l2] (vi y :: vi x :: st) M Q = WP d 155 8 [l0, l1, l2] (vi (x * y) :: st) M Q := w1 mC_155 d155_7 rfl rfl
theorem d155_8 : decode cX12_toldAt 8 = .ok (.iload_n 2, 1) := by decide +kernel
theorem k155_8 {d : Nat} {x : Int32} {l0 l1 : Option PV} {st : List PV} {M : Mem} {Q : Option PV → Mem → Prop} : WP d 155 8 [l0, l1, some (vi x)] (st) M Q = WP d 155 9 [l0, l1, some (vi x)] (vi x :: st) M Q := w1 mC_155 d155_8 rfl rfl
theorem d155_9 : decode cX12_toldAt 9 = .ok (.iadd, 1) := by decide +kernel
theorem k155_9 {d : Nat} {l0 l1 l2 : Option PV} {st : List PV} {M : Mem} {Q : Option PV → Mem → Prop} {x y : Int32} : WP d 155 9 [l0, l1, l2] (vi y :: vi x :: st) M Q = WP d 155 10 [l0, l1, l2] (vi (x + y) :: st) M Q := w1 mC_155 d155_9 rfl rfl
theorem d155_10 : decode cX12_toldAt 10 = .ok (.laload, 1) := by decide +kernel
theorem k155_10 {d : Nat} {l0 l1 l2 : Option PV} {st : List PV} {M : Mem} {Q : Option PV → Mem → Prop} {r : Nat} {j : Int32} (hk : mK M r = 14) (hj : inb j (mN M r)) (h1 : r ≠ 1) : WP d 155 10 [l0, l1, l2] (vi j :: vr r :: st) M Q = WP d 155 11 [l0, l1, l2] (vl (mJ M r (ix j)) :: st) M Q := w_lald mC_155 d155_10 hk hj h1
theorem d155_11 : decode cX12_toldAt 11 = .ok (.l2i, 1) := by decide +kernel
theorem k155_11 {d : Nat} {l0 l1 l2 : Option PV} {st : List PV} {M : Mem} {Q : Option PV → Mem → Prop} {x : Int64} : WP d 155 11 [l0, l1, l2] (vl x :: st) M Q = WP d 155 12 [l0, l1, l2] (vi x.toInt32 :: st) M Q := w1 mC_155 d155_11 rfl rfl
theorem d155_12 : decode cX12_toldAt 12 = .ok (.ireturn, 1) := by decide +kernel
theorem k155_12 {d : Nat} {l0 l1 l2 : Option PV} {M : Mem} {Q : Option PV → Mem → Prop} {x : Int32} : WP d 155 12 [l0, l1, l2] ([vi x]) M Q = Q (some (vi x)) M := w_iret mC_155 d155_12 rfl
theorem d156_0 : decode cX12_isOf 0 = .ok (.iload_n 2, 1) := by decide +kernel
theorem k156_0 {d : Nat} {x : Int32} {l0 l1 : Option PV} {st : List PV} {M : Mem} {Q : Option PV → Mem → Prop} : WP d 156 0 [l0, l1, some (vi x)] (st) M Q = WP d 156 1 [l0, l1, some (vi x)] (vi x :: st) M Q := w1 mC_156 d156_0 rfl rfl
theorem d156_1 : decode cX12_isOf 1 = .ok (.iconst 0, 1) := by decide +kernel
theorem k156_1 {d : Nat} {l0 l1 l2 : Option PV} {st : List PV} {M : Mem} {Q : Option PV → Mem → Prop} : WP d 156 1 [l0, l1, l2] (st) M Q = WP d 156 2 [l0, l1, l2] (vi 0 :: st) M Q := w_iconst mC_156 d156_1 (by decide)
theorem d156_2 : decode cX12_isOf 2 = .ok (.iconst 1, 1) := by decide +kernel
theorem k156_2 {d : Nat} {l0 l1 l2 : Option PV} {st : List PV} {M : Mem} {Q : Option PV → Mem → Prop} : WP d 156 2 [l0, l1, l2] (st) M Q = WP d 156 3 [l0, l1, l2] (vi 1 :: st) M Q := w_iconst mC_156 d156_2 (by decide)
theorem d156_3 : decode cX12_isOf 3 = .ok (.invokestatic 104, 3) := by decide +kernel
theorem k156_3 {d : Nat} {l0 l1 l2 : Option PV} {st : List PV} {M : Mem} {Q : Option PV → Mem → Prop} {a0 a1 a2 : Int32} (hl : szL st ≤ 8) : WP (d + 1) 156 3 [l0, l1, l2] (vi a2 :: vi a1 :: vi a0 :: st) M Q = WP d 145 0 [some (vi a0), some (vi a1), some (vi a2)] [] M (fun v M' => WP (d + 1) 156 6 [l0, l1, l2] (psh v st) M' Q) := w_callS mC_156 d156_3 rfl rfl (Nat.le_of_ble_eq_true rfl) (by decide) rfl hl
theorem d156_6 : decode cX12_isOf 6 = .ok (.ifCond .eq 11, 3) := by decide +kernel
theorem k156_6 {d : Nat} {l0 l1 l2 : Option PV} {st : List PV} {M : Mem} {Q : Option PV → Mem → Prop} {x : Int32} : WP d 156 6 [l0, l1, l2] (vi x :: st) M Q = (if x = 0 then WP d 156 17 [l0, l1, l2] (st) M Q else WP d 156 9 [l0, l1, l2] (st) M Q) := w_if_eq mC_156 d156_6 (by decide)
theorem d156_9 : decode cX12_isOf 9 = .ok (.aload_n 0, 1) := by decide +kernel
theorem k156_9 {d x : Nat} {l1 l2 : Option PV} {st : List PV} {M : Mem} {Q : Option PV → Mem → Prop} : WP d 156 9 [some (vr x), l1, l2] (st) M Q = WP d 156 10 [some (vr x), l1, l2] (vr x :: st) M Q := w1 mC_156 d156_9 rfl rfl
theorem d156_10 : decode cX12_isOf 10 = .ok (.iload_n 1, 1) := by decide +kernel
theorem k156_10 {d : Nat} {x : Int32} {l0 l2 : Option PV} {st : List PV} {M : Mem} {Q : Option PV → Mem → Prop} : WP d 156 10 [l0, some (vi x), l2] (st) M Q = WP d 156 11 [l0, some (vi x), l2] (vi x :: st) M Q := w1 mC_156 d156_10 rfl rfl
theorem d156_11 : decode cX12_isOf 11 = .ok (.invokevirtual 119, 3) := by decide +kernel
theorem k156_11 {d : Nat} {l0 l1 l2 : Option PV} {st : List PV} {M : Mem} {Q : Option PV → Mem → Prop} {a0 : Int32} {r : Nat} (hl : szL st ≤ 8) (hk : mK M r = 12) : WP (d + 1) 156 11 [l0, l1, l2] (vi a0 :: vr r :: st) M Q = WP d 146 0 [some (vr r), some (vi a0)] [] M (fun v M' => WP (d + 1) 156 14 [l0, l1, l2] (psh v st) M' Q) := w_callV mC_156 d156_11 (ci := 12) rfl rfl rfl (Nat.le_of_ble_eq_true rfl) (by decide) rfl hl hk
theorem d156_14 : decode cX12_isOf 14 = .ok (.goto 40, 3) := by decide +kernel
theorem k156_14 {d : Nat} {l0 l1 l2 : Option PV} {st : List PV} {M : Mem} {Q : Option PV → Mem → Prop} : WP d 156 14 [l0, l1, l2] (st) M Q = WP d 156 54 [l0, l1, l2] (st) M Q := w_goto mC_156 d156_14 (by decide)
theorem d156_17 : decode cX12_isOf 17 = .ok (.iload_n 2, 1) := by decide +kernel
theorem k156_17 {d : Nat} {x : Int32} {l0 l1 : Option PV} {st : List PV} {M : Mem} {Q : Option PV → Mem → Prop} : WP d 156 17 [l0, l1, some (vi x)] (st) M Q = WP d 156 18 [l0, l1, some (vi x)] (vi x :: st) M Q := w1 mC_156 d156_17 rfl rfl
theorem d156_18 : decode cX12_isOf 18 = .ok (.iconst 2, 1) := by decide +kernel
theorem k156_18 {d : Nat} {l0 l1 l2 : Option PV} {st : List PV} {M : Mem} {Q : Option PV → Mem → Prop} : WP d 156 18 [l0, l1, l2] (st) M Q = WP d 156 19 [l0, l1, l2] (vi 2 :: st) M Q := w_iconst mC_156 d156_18 (by decide)
theorem d156_19 : decode cX12_isOf 19 = .ok (.iconst 5, 1) := by decide +kernel
theorem k156_19 {d : Nat} {l0 l1 l2 : Option PV} {st : List PV} {M : Mem} {Q : Option PV → Mem → Prop} : WP d 156 19 [l0, l1, l2] (st) M Q = WP d 156 20 [l0, l1, l2] (vi 5 :: st) M Q := w_iconst mC_156 d156_19 (by decide)
theorem d156_20 : decode cX12_isOf 20 = .ok (.invokestatic 104, 3) := by decide +kernel
theorem k156_20 {d : Nat} {l0 l1 l2 : Option PV} {st : List PV} {M : Mem} {Q : Option PV → Mem → Prop} {a0 a1 a2 : Int32} (hl : szL st ≤ 8) : WP (d + 1) 156 20 [l0, l1, l2] (vi a2 :: vi a1 :: vi a0 :: st) M Q = WP d 145 0 [some (vi a0), some (vi a1), some (vi a2)] [] M (fun v M' => WP (d + 1) 156 23 [l0, l1, l2] (psh v st) M' Q) := w_callS mC_156 d156_20 rfl rfl (Nat.le_of_ble_eq_true rfl) (by decide) rfl hl
theorem d156_23 : decode cX12_isOf 23 = .ok (.ifCond .eq 11, 3) := by decide +kernel
theorem k156_23 {d : Nat} {l0 l1 l2 : Option PV} {st : List PV} {M : Mem} {Q : Option PV → Mem → Prop} {x : Int32} : WP d 156 23 [l0, l1, l2] (vi x :: st) M Q = (if x = 0 then WP d 156 34 [l0, l1, l2] (st) M Q else WP d 156 26 [l0, l1, l2] (st) M Q) := w_if_eq mC_156 d156_23 (by decide)
theorem d156_26 : decode cX12_isOf 26 = .ok (.aload_n 0, 1) := by decide +kernel
theorem k156_26 {d x : Nat} {l1 l2 : Option PV} {st : List PV} {M : Mem} {Q : Option PV → Mem → Prop} : WP d 156 26 [some (vr x), l1, l2] (st) M Q = WP d 156 27 [some (vr x), l1, l2] (vr x :: st) M Q := w1 mC_156 d156_26 rfl rfl
theorem d156_27 : decode cX12_isOf 27 = .ok (.iload_n 1, 1) := by decide +kernel
theorem k156_27 {d : Nat} {x : Int32} {l0 l2 : Option PV} {st : List PV} {M : Mem} {Q : Option PV → Mem → Prop} : WP d 156 27 [l0, some (vi x), l2] (st) M Q = WP d 156 28 [l0, some (vi x), l2] (vi x :: st) M Q := w1 mC_156 d156_27 rfl rfl
theorem d156_28 : decode cX12_isOf 28 = .ok (.invokevirtual 134, 3) := by decide +kernel
theorem k156_28 {d : Nat} {l0 l1 l2 : Option PV} {st : List PV} {M : Mem} {Q : Option PV → Mem → Prop} {a0 : Int32} {r : Nat} (hl : szL st ≤ 8) (hk : mK M r = 12) : WP (d + 1) 156 28 [l0, l1, l2] (vi a0 :: vr r :: st) M Q = WP d 147 0 [some (vr r), some (vi a0)] [] M (fun v M' => WP (d + 1) 156 31 [l0, l1, l2] (psh v st) M' Q) := w_callV mC_156 d156_28 (ci := 12) rfl rfl rfl (Nat.le_of_ble_eq_true rfl) (by decide) rfl hl hk
theorem d156_31 : decode cX12_isOf 31 = .ok (.goto 23, 3) := by decide +kernel
theorem k156_31 {d : Nat} {l0 l1 l2 : Option PV} {st : List PV} {M : Mem} {Q : Option PV → Mem → Prop} : WP d 156 31 [l0, l1, l2] (st) M Q = WP d 156 54 [l0, l1, l2] (st) M Q := w_goto mC_156 d156_31 (by decide)
theorem d156_34 : decode cX12_isOf 34 = .ok (.iload_n 2, 1) := by decide +kernel
theorem k156_34 {d : Nat} {x : Int32} {l0 l1 : Option PV} {st : List PV} {M : Mem} {Q : Option PV → Mem → Prop} : WP d 156 34 [l0, l1, some (vi x)] (st) M Q = WP d 156 35 [l0, l1, some (vi x)] (vi x :: st) M Q := w1 mC_156 d156_34 rfl rfl
theorem d156_35 : decode cX12_isOf 35 = .ok (.bipush 6, 2) := by decide +kernel
theorem k156_35 {d : Nat} {l0 l1 l2 : Option PV} {st : List PV} {M : Mem} {Q : Option PV → Mem → Prop} : WP d 156 35 [l0, l1, l2] (st) M Q = WP d 156 37 [l0, l1, l2] (vi 6 :: st) M Q := w_bipush mC_156 d156_35 (by decide)
theorem d156_37 : decode cX12_isOf 37 = .ok (.bipush 7, 2) := by decide +kernel
theorem k156_37 {d : Nat} {l0 l1 l2 : Option PV} {st : List PV} {M : Mem} {Q : Option PV → Mem → Prop} : WP d 156 37 [l0, l1, l2] (st) M Q = WP d 156 39 [l0, l1, l2] (vi 7 :: st) M Q := w_bipush mC_156 d156_37 (by decide)
theorem d156_39 : decode cX12_isOf 39 = .ok (.invokestatic 104, 3) := by decide +kernel
theorem k156_39 {d : Nat} {l0 l1 l2 : Option PV} {st : List PV} {M : Mem} {Q : Option PV → Mem → Prop} {a0 a1 a2 : Int32} (hl : szL st ≤ 8) : WP (d + 1) 156 39 [l0, l1, l2] (vi a2 :: vi a1 :: vi a0 :: st) M Q = WP d 145 0 [some (vi a0), some (vi a1), some (vi a2)] [] M (fun v M' => WP (d + 1) 156 42 [l0, l1, l2] (psh v st) M' Q) := w_callS mC_156 d156_39 rfl rfl (Nat.le_of_ble_eq_true rfl) (by decide) rfl hl
theorem d156_42 : decode cX12_isOf 42 = .ok (.ifCond .eq 11, 3) := by decide +kernel
theorem k156_42 {d : Nat} {l0 l1 l2 : Option PV} {st : List PV} {M : Mem} {Q : Option PV → Mem → Prop} {x : Int32} : WP d 156 42 [l0, l1, l2] (vi x :: st) M Q = (if x = 0 then WP d 156 53 [l0, l1, l2] (st) M Q else WP d 156 45 [l0, l1, l2] (st) M Q) := w_if_eq mC_156 d156_42 (by decide)
theorem d156_45 : decode cX12_isOf 45 = .ok (.iload_n 1, 1) := by decide +kernel
theorem k156_45 {d : Nat} {x : Int32} {l0 l2 : Option PV} {st : List PV} {M : Mem} {Q : Option PV → Mem → Prop} : WP d 156 45 [l0, some (vi x), l2] (st) M Q = WP d 156 46 [l0, some (vi x), l2] (vi x :: st) M Q := w1 mC_156 d156_45 rfl rfl
theorem d156_46 : decode cX12_isOf 46 = .ok (.ifCond .ne 7, 3) := by decide +kernel
theorem k156_46 {d : Nat} {l0 l1 l2 : Option PV} {st : List PV} {M : Mem} {Q : Option PV → Mem → Prop} {x : Int32} : WP d 156 46 [l0, l1, l2] (vi x :: st) M Q = (if x = 0 then WP d 156 49 [l0, l1, l2] (st) M Q else WP d 156 53 [l0, l1, l2] (st) M Q) := w_if_ne mC_156 d156_46 (by decide)
theorem d156_49 : decode cX12_isOf 49 = .ok (.iconst 1, 1) := by decide +kernel
theorem k156_49 {d : Nat} {l0 l1 l2 : Option PV} {st : List PV} {M : Mem} {Q : Option PV → Mem → Prop} : WP d 156 49 [l0, l1, l2] (st) M Q = WP d 156 50 [l0, l1, l2] (vi 1 :: st) M Q := w_iconst mC_156 d156_49 (by decide)
theorem d156_50 : decode cX12_isOf 50 = .ok (.goto 4, 3) := by decide +kernel
theorem k156_50 {d : Nat} {l0 l1 l2 : Option PV} {st : List PV} {M : Mem} {Q : Option PV → Mem → Prop} : WP d 156 50 [l0, l1, l2] (st) M Q = WP d 156 54 [l0, l1, l2] (st) M Q := w_goto mC_156 d156_50 (by decide)
theorem d156_53 : decode cX12_isOf 53 = .ok (.iconst 0, 1) := by decide +kernel
theorem k156_53 {d : Nat} {l0 l1 l2 : Option PV} {st : List PV} {M : Mem} {Q : Option PV → Mem → Prop} : WP d 156 53 [l0, l1, l2] (st) M Q = WP d 156 54 [l0, l1, l2] (vi 0 :: st) M Q := w_iconst mC_156 d156_53 (by decide)
theorem d156_54 : decode cX12_isOf 54 = .ok (.ireturn, 1) := by decide +kernel
theorem k156_54 {d : Nat} {l0 l1 l2 : Option PV} {M : Mem} {Q : Option PV → Mem → Prop} {x : Int32} (hx : x = 0 ∨ x = 1) : WP d 156 54 [l0, l1, l2] ([vi x]) M Q = Q (some (vi x)) M := w_zret mC_156 d156_54 rfl hx
theorem d157_0 : decode cX12_isFit 0 = .ok (.iload_n 1, 1) := by decide +kernel
theorem k157_0 {d : Nat} {x : Int32} {l0 l2 : Option PV} {st : List PV} {M : Mem} {Q : Option PV → Mem → Prop} : WP d 157 0 [l0, some (vi x), l2] (st) M Q = WP d 157 1 [l0, some (vi x), l2] (vi x :: st) M Q := w1 mC_157 d157_0 rfl rfl
theorem d157_1 : decode cX12_isFit 1 = .ok (.tableswitch 74 0 7 #[47, 74, 47, 52, 60, 74, 66, 66], 47) := by decide +kernel
theorem k157_1c0 {d : Nat} {l0 l1 l2 : Option PV} {st : List PV} {M : Mem} {Q : Option PV → Mem → Prop} : WP d 157 1 [l0, l1, l2] (vi 0 :: st) M Q = WP d 157 48 [l0, l1, l2] (st) M Q := w_sw mC_157 d157_1 (by decide +kernel)
theorem k157_1c1 {d : Nat} {l0 l1 l2 : Option PV} {st : List PV} {M : Mem} {Q : Option PV → Mem → Prop} : WP d 157 1 [l0, l1, l2] (vi 1 :: st) M Q = WP d 157 75 [l0, l1, l2] (st) M Q := w_sw mC_157 d157_1 (by decide +kernel)
theorem k157_1c2 {d : Nat} {l0 l1 l2 : Option PV} {st : List PV} {M : Mem} {Q : Option PV → Mem → Prop} : WP d 157 1 [l0, l1, l2] (vi 2 :: st) M Q = WP d 157 48 [l0, l1, l2] (st) M Q := w_sw mC_157 d157_1 (by decide +kernel)
theorem k157_1c3 {d : Nat} {l0 l1 l2 : Option PV} {st : List PV} {M : Mem} {Q : Option PV → Mem → Prop} : WP d 157 1 [l0, l1, l2] (vi 3 :: st) M Q = WP d 157 53 [l0, l1, l2] (st) M Q := w_sw mC_157 d157_1 (by decide +kernel)
theorem k157_1c4 {d : Nat} {l0 l1 l2 : Option PV} {st : List PV} {M : Mem} {Q : Option PV → Mem → Prop} : WP d 157 1 [l0, l1, l2] (vi 4 :: st) M Q = WP d 157 61 [l0, l1, l2] (st) M Q := w_sw mC_157 d157_1 (by decide +kernel)
theorem k157_1c5 {d : Nat} {l0 l1 l2 : Option PV} {st : List PV} {M : Mem} {Q : Option PV → Mem → Prop} : WP d 157 1 [l0, l1, l2] (vi 5 :: st) M Q = WP d 157 75 [l0, l1, l2] (st) M Q := w_sw mC_157 d157_1 (by decide +kernel)
theorem k157_1c6 {d : Nat} {l0 l1 l2 : Option PV} {st : List PV} {M : Mem} {Q : Option PV → Mem → Prop} : WP d 157 1 [l0, l1, l2] (vi 6 :: st) M Q = WP d 157 67 [l0, l1, l2] (st) M Q := w_sw mC_157 d157_1 (by decide +kernel)
theorem k157_1c7 {d : Nat} {l0 l1 l2 : Option PV} {st : List PV} {M : Mem} {Q : Option PV → Mem → Prop} : WP d 157 1 [l0, l1, l2] (vi 7 :: st) M Q = WP d 157 67 [l0, l1, l2] (st) M Q := w_sw mC_157 d157_1 (by decide +kernel)
theorem k157_1 {d : Nat} {l0 l1 l2 : Option PV} {st : List PV} {M : Mem} {Q : Option PV → Mem → Prop} {x : Int32} (h : x.toInt < 0 ∨ 7 < x.toInt) : WP d 157 1 [l0, l1, l2] (vi x :: st) M Q = WP d 157 75 [l0, l1, l2] (st) M Q := w_swd mC_157 d157_1 (by decide) h
theorem d157_48 : decode cX12_isFit 48 = .ok (.iload_n 2, 1) := by decide +kernel
theorem k157_48 {d : Nat} {x : Int32} {l0 l1 : Option PV} {st : List PV} {M : Mem} {Q : Option PV → Mem → Prop} : WP d 157 48 [l0, l1, some (vi x)] (st) M Q = WP d 157 49 [l0, l1, some (vi x)] (vi x :: st) M Q := w1 mC_157 d157_48 rfl rfl
theorem d157_49 : decode cX12_isFit 49 = .ok (.invokestatic 111, 3) := by decide +kernel
theorem k157_49 {d : Nat} {l0 l1 l2 : Option PV} {st : List PV} {M : Mem} {Q : Option PV → Mem → Prop} {a0 : Int32} (hl : szL st ≤ 8) : WP (d + 1) 157 49 [l0, l1, l2] (vi a0 :: st) M Q = WP d 148 0 [some (vi a0)] [] M (fun v M' => WP (d + 1) 157 52 [l0, l1, l2] (psh v st) M' Q) := w_callS mC_157 d157_49 rfl rfl (Nat.le_of_ble_eq_true rfl) (by decide) rfl hl
theorem d157_52 : decode cX12_isFit 52 = .ok (.ireturn, 1) := by decide +kernel
theorem k157_52 {d : Nat} {l0 l1 l2 : Option PV} {M : Mem} {Q : Option PV → Mem → Prop} {x : Int32} (hx : x = 0 ∨ x = 1) : WP d 157 52 [l0, l1, l2] ([vi x]) M Q = Q (some (vi x)) M := w_zret mC_157 d157_52 rfl hx
theorem d157_53 : decode cX12_isFit 53 = .ok (.iload_n 2, 1) := by decide +kernel
theorem k157_53 {d : Nat} {x : Int32} {l0 l1 : Option PV} {st : List PV} {M : Mem} {Q : Option PV → Mem → Prop} : WP d 157 53 [l0, l1, some (vi x)] (st) M Q = WP d 157 54 [l0, l1, some (vi x)] (vi x :: st) M Q := w1 mC_157 d157_53 rfl rfl
theorem d157_54 : decode cX12_isFit 54 = .ok (.iconst 0, 1) := by decide +kernel
theorem k157_54 {d : Nat} {l0 l1 l2 : Option PV} {st : List PV} {M : Mem} {Q : Option PV → Mem → Prop} : WP d 157 54 [l0, l1, l2] (st) M Q = WP d 157 55 [l0, l1, l2] (vi 0 :: st) M Q := w_iconst mC_157 d157_54 (by decide)
theorem d157_55 : decode cX12_isFit 55 = .ok (.bipush 9, 2) := by decide +kernel
theorem k157_55 {d : Nat} {l0 l1 l2 : Option PV} {st : List PV} {M : Mem} {Q : Option PV → Mem → Prop} : WP d 157 55 [l0, l1, l2] (st) M Q = WP d 157 57 [l0, l1, l2] (vi 9 :: st) M Q := w_bipush mC_157 d157_55 (by decide)
theorem d157_57 : decode cX12_isFit 57 = .ok (.invokestatic 104, 3) := by decide +kernel
theorem k157_57 {d : Nat} {l0 l1 l2 : Option PV} {st : List PV} {M : Mem} {Q : Option PV → Mem → Prop} {a0 a1 a2 : Int32} (hl : szL st ≤ 8) : WP (d + 1) 157 57 [l0, l1, l2] (vi a2 :: vi a1 :: vi a0 :: st) M Q = WP d 145 0 [some (vi a0), some (vi a1), some (vi a2)] [] M (fun v M' => WP (d + 1) 157 60 [l0, l1, l2] (psh v st) M' Q) := w_callS mC_157 d157_57 rfl rfl (Nat.le_of_ble_eq_true rfl) (by decide) rfl hl
theorem d157_60 : decode cX12_isFit 60 = .ok (.ireturn, 1) := by decide +kernel
theorem k157_60 {d : Nat} {l0 l1 l2 : Option PV} {M : Mem} {Q : Option PV → Mem → Prop} {x : Int32} (hx : x = 0 ∨ x = 1) : WP d 157 60 [l0, l1, l2] ([vi x]) M Q = Q (some (vi x)) M := w_zret mC_157 d157_60 rfl hx
theorem d157_61 : decode cX12_isFit 61 = .ok (.aload_n 0, 1) := by decide +kernel
theorem k157_61 {d x : Nat} {l1 l2 : Option PV} {st : List PV} {M : Mem} {Q : Option PV → Mem → Prop} : WP d 157 61 [some (vr x), l1, l2] (st) M Q = WP d 157 62 [some (vr x), l1, l2] (vr x :: st) M Q := w1 mC_157 d157_61 rfl rfl
theorem d157_62 : decode cX12_isFit 62 = .ok (.iload_n 2, 1) := by decide +kernel
theorem k157_62 {d : Nat} {x : Int32} {l0 l1 : Option PV} {st : List PV} {M : Mem} {Q : Option PV → Mem → Prop} : WP d 157 62 [l0, l1, some (vi x)] (st) M Q = WP d 157 63 [l0, l1, some (vi x)] (vi x :: st) M Q := w1 mC_157 d157_62 rfl rfl
theorem d157_63 : decode cX12_isFit 63 = .ok (.invokevirtual 131, 3) := by decide +kernel
theorem k157_63 {d : Nat} {l0 l1 l2 : Option PV} {st : List PV} {M : Mem} {Q : Option PV → Mem → Prop} {a0 : Int32} {r : Nat} (hl : szL st ≤ 8) (hk : mK M r = 12) : WP (d + 1) 157 63 [l0, l1, l2] (vi a0 :: vr r :: st) M Q = WP d 153 0 [some (vr r), some (vi a0)] [] M (fun v M' => WP (d + 1) 157 66 [l0, l1, l2] (psh v st) M' Q) := w_callV mC_157 d157_63 (ci := 12) rfl rfl rfl (Nat.le_of_ble_eq_true rfl) (by decide) rfl hl hk
theorem d157_66 : decode cX12_isFit 66 = .ok (.ireturn, 1) := by decide +kernel
theorem k157_66 {d : Nat} {l0 l1 l2 : Option PV} {M : Mem} {Q : Option PV → Mem → Prop} {x : Int32} (hx : x = 0 ∨ x = 1) : WP d 157 66 [l0, l1, l2] ([vi x]) M Q = Q (some (vi x)) M := w_zret mC_157 d157_66 rfl hx
theorem d157_67 : decode cX12_isFit 67 = .ok (.iload_n 2, 1) := by decide +kernel
theorem k157_67 {d : Nat} {x : Int32} {l0 l1 : Option PV} {st : List PV} {M : Mem} {Q : Option PV → Mem → Prop} : WP d 157 67 [l0, l1, some (vi x)] (st) M Q = WP d 157 68 [l0, l1, some (vi x)] (vi x :: st) M Q := w1 mC_157 d157_67 rfl rfl
theorem d157_68 : decode cX12_isFit 68 = .ok (.iconst 0, 1) := by decide +kernel
theorem k157_68 {d : Nat} {l0 l1 l2 : Option PV} {st : List PV} {M : Mem} {Q : Option PV → Mem → Prop} : WP d 157 68 [l0, l1, l2] (st) M Q = WP d 157 69 [l0, l1, l2] (vi 0 :: st) M Q := w_iconst mC_157 d157_68 (by decide)
theorem d157_69 : decode cX12_isFit 69 = .ok (.bipush 11, 2) := by decide +kernel
theorem k157_69 {d : Nat} {l0 l1 l2 : Option PV} {st : List PV} {M : Mem} {Q : Option PV → Mem → Prop} : WP d 157 69 [l0, l1, l2] (st) M Q = WP d 157 71 [l0, l1, l2] (vi 11 :: st) M Q := w_bipush mC_157 d157_69 (by decide)
theorem d157_71 : decode cX12_isFit 71 = .ok (.invokestatic 104, 3) := by decide +kernel
theorem k157_71 {d : Nat} {l0 l1 l2 : Option PV} {st : List PV} {M : Mem} {Q : Option PV → Mem → Prop} {a0 a1 a2 : Int32} (hl : szL st ≤ 8) : WP (d + 1) 157 71 [l0, l1, l2] (vi a2 :: vi a1 :: vi a0 :: st) M Q = WP d 145 0 [some (vi a0), some (vi a1), some (vi a2)] [] M (fun v M' => WP (d + 1) 157 74 [l0, l1, l2] (psh v st) M' Q) := w_callS mC_157 d157_71 rfl rfl (Nat.le_of_ble_eq_true rfl) (by decide) rfl hl
theorem d157_74 : decode cX12_isFit 74 = .ok (.ireturn, 1) := by decide +kernel
theorem k157_74 {d : Nat} {l0 l1 l2 : Option PV} {M : Mem} {Q : Option PV → Mem → Prop} {x : Int32} (hx : x = 0 ∨ x = 1) : WP d 157 74 [l0, l1, l2] ([vi x]) M Q = Q (some (vi x)) M := w_zret mC_157 d157_74 rfl hx
theorem d157_75 : decode cX12_isFit 75 = .ok (.iload_n 2, 1) := by decide +kernel
theorem k157_75 {d : Nat} {x : Int32} {l0 l1 : Option PV} {st : List PV} {M : Mem} {Q : Option PV → Mem → Prop} : WP d 157 75 [l0, l1, some (vi x)] (st) M Q = WP d 157 76 [l0, l1, some (vi x)] (vi x :: st) M Q := w1 mC_157 d157_75 rfl rfl
theorem d157_76 : decode cX12_isFit 76 = .ok (.iconst 0, 1) := by decide +kernel
theorem k157_76 {d : Nat} {l0 l1 l2 : Option PV} {st : List PV} {M : Mem} {Q : Option PV → Mem → Prop} : WP d 157 76 [l0, l1, l2] (st) M Q = WP d 157 77 [l0, l1, l2] (vi 0 :: st) M Q := w_iconst mC_157 d157_76 (by decide)
theorem d157_77 : decode cX12_isFit 77 = .ok (.bipush 99, 2) := by decide +kernel
theorem k157_77 {d : Nat} {l0 l1 l2 : Option PV} {st : List PV} {M : Mem} {Q : Option PV → Mem → Prop} : WP d 157 77 [l0, l1, l2] (st) M Q = WP d 157 79 [l0, l1, l2] (vi 99 :: st) M Q := w_bipush mC_157 d157_77 (by decide)
theorem d157_79 : decode cX12_isFit 79 = .ok (.invokestatic 104, 3) := by decide +kernel
theorem k157_79 {d : Nat} {l0 l1 l2 : Option PV} {st : List PV} {M : Mem} {Q : Option PV → Mem → Prop} {a0 a1 a2 : Int32} (hl : szL st ≤ 8) : WP (d + 1) 157 79 [l0, l1, l2] (vi a2 :: vi a1 :: vi a0 :: st) M Q = WP d 145 0 [some (vi a0), some (vi a1), some (vi a2)] [] M (fun v M' => WP (d + 1) 157 82 [l0, l1, l2] (psh v st) M' Q) := w_callS mC_157 d157_79 rfl rfl (Nat.le_of_ble_eq_true rfl) (by decide) rfl hl
theorem d157_82 : decode cX12_isFit 82 = .ok (.ireturn, 1) := by decide +kernel
theorem k157_82 {d : Nat} {l0 l1 l2 : Option PV} {M : Mem} {Q : Option PV → Mem → Prop} {x : Int32} (hx : x = 0 ∨ x = 1) : WP d 157 82 [l0, l1, l2] ([vi x]) M Q = Q (some (vi x)) M := w_zret mC_157 d157_82 rfl hx
theorem d158_0 : decode cX12_get 0 = .ok (.iload_n 2, 1) := by decide +kernel
theorem k158_0 {d : Nat} {x : Int32} {l0 l1 : Option PV} {st : List PV} {M : Mem} {Q : Option PV → Mem → Prop} : WP d 158 0 [l0, l1, some (vi x)] (st) M Q = WP d 158 1 [l0, l1, some (vi x)] (vi x :: st) M Q := w1 mC_158 d158_0 rfl rfl
theorem d158_1 : decode cX12_get 1 = .ok (.bipush 6, 2) := by decide +kernel
theorem k158_1 {d : Nat} {l0 l1 l2 : Option PV} {st : List PV} {M : Mem} {Q : Option PV → Mem → Prop} : WP d 158 1 [l0, l1, l2] (st) M Q = WP d 158 3 [l0, l1, l2] (vi 6 :: st) M Q := w_bipush mC_158 d158_1 (by decide)
theorem d158_3 : decode cX12_get 3 = .ok (.if_icmp .ge 17, 3) := by decide +kernel
theorem k158_3 {d : Nat} {l0 l1 l2 : Option PV} {st : List PV} {M : Mem} {Q : Option PV → Mem → Prop} {x y : Int32} : WP d 158 3 [l0, l1, l2] (vi y :: vi x :: st) M Q = (if y ≤ x then WP d 158 20 [l0, l1, l2] (st) M Q else WP d 158 6 [l0, l1, l2] (st) M Q) := w_ic_ge mC_158 d158_3 (by decide)
theorem d158_6 : decode cX12_get 6 = .ok (.aload_n 0, 1) := by decide +kernel
theorem k158_6 {d x : Nat} {l1 l2 : Option PV} {st : List PV} {M : Mem} {Q : Option PV → Mem → Prop} : WP d 158 6 [some (vr x), l1, l2] (st) M Q = WP d 158 7 [some (vr x), l1, l2] (vr x :: st) M Q := w1 mC_158 d158_6 rfl rfl
theorem d158_7 : decode cX12_get 7 = .ok (.getfield 9, 3) := by decide +kernel
theorem k158_7 {d : Nat} {l0 l1 l2 : Option PV} {st : List PV} {M : Mem} {Q : Option PV → Mem → Prop} {r : Nat} (hk : mK M r = 12) : WP d 158 7 [l0, l1, l2] (vr r :: st) M Q = WP d 158 10 [l0, l1, l2] (vr (mR M r 2) :: st) M Q := w_getr mC_158 d158_7 fE_12_9 rfl (by rw [hk]; rfl)
theorem d158_10 : decode cX12_get 10 = .ok (.bipush 8, 2) := by decide +kernel
theorem k158_10 {d : Nat} {l0 l1 l2 : Option PV} {st : List PV} {M : Mem} {Q : Option PV → Mem → Prop} : WP d 158 10 [l0, l1, l2] (st) M Q = WP d 158 12 [l0, l1, l2] (vi 8 :: st) M Q := w_bipush mC_158 d158_10 (by decide)
theorem d158_12 : decode cX12_get 12 = .ok (.iload_n 2, 1) := by decide +kernel
theorem k158_12 {d : Nat} {x : Int32} {l0 l1 : Option PV} {st : List PV} {M : Mem} {Q : Option PV → Mem → Prop} : WP d 158 12 [l0, l1, some (vi x)] (st) M Q = WP d 158 13 [l0, l1, some (vi x)] (vi x :: st) M Q := w1 mC_158 d158_12 rfl rfl
theorem d158_13 : decode cX12_get 13 = .ok (.imul, 1) := by decide +kernel
theorem k158_13 {d : Nat} {l0 l1 l2 : Option PV} {st : List PV} {M : Mem} {Q : Option PV → Mem → Prop} {x y : Int32} : WP d 158 13 [l0, l1, l2] (vi y :: vi x :: st) M Q = WP d 158 14 [l0, l1, l2] (vi (x * y) :: st) M Q := w1 mC_158 d158_13 rfl rfl
theorem d158_14 : decode cX12_get 14 = .ok (.iload_n 1, 1) := by decide +kernel
theorem k158_14 {d : Nat} {x : Int32} {l0 l2 : Option PV} {st : List PV} {M : Mem} {Q : Option PV → Mem → Prop} : WP d 158 14 [l0, some (vi x), l2] (st) M Q = WP d 158 15 [l0, some (vi x), l2] (vi x :: st) M Q := w1 mC_158 d158_14 rfl rfl
theorem d158_15 : decode cX12_get 15 = .ok (.iadd, 1) := by decide +kernel
theorem k158_15 {d : Nat} {l0 l1 l2 : Option PV} {st : List PV} {M : Mem} {Q : Option PV → Mem → Prop} {x y : Int32} : WP d 158 15 [l0, l1, l2] (vi y :: vi x :: st) M Q = WP d 158 16 [l0, l1, l2] (vi (x + y) :: st) M Q := w1 mC_158 d158_15 rfl rfl
theorem d158_16 : decode cX12_get 16 = .ok (.iaload, 1) := by decide +kernel
theorem k158_16 {d : Nat} {l0 l1 l2 : Option PV} {st : List PV} {M : Mem} {Q : Option PV → Mem → Prop} {r : Nat} {j : Int32} (hk : mK M r = 13) (hj : inb j (mN M r)) (h1 : r ≠ 1) : WP d 158 16 [l0, l1, l2] (vi j :: vr r :: st) M Q = WP d 158 17 [l0, l1, l2] (vi (mI M r (ix j)) :: st) M Q := w_iald mC_158 d158_16 (by decide) hk hj h1
theorem d158_17 : decode cX12_get 17 = .ok (.goto 12, 3) := by decide +kernel
theorem k158_17 {d : Nat} {l0 l1 l2 : Option PV} {st : List PV} {M : Mem} {Q : Option PV → Mem → Prop} : WP d 158 17 [l0, l1, l2] (st) M Q = WP d 158 29 [l0, l1, l2] (st) M Q := w_goto mC_158 d158_17 (by decide)
theorem d158_20 : decode cX12_get 20 = .ok (.aload_n 0, 1) := by decide +kernel
theorem k158_20 {d x : Nat} {l1 l2 : Option PV} {st : List PV} {M : Mem} {Q : Option PV → Mem → Prop} : WP d 158 20 [some (vr x), l1, l2] (st) M Q = WP d 158 21 [some (vr x), l1, l2] (vr x :: st) M Q := w1 mC_158 d158_20 rfl rfl
theorem d158_21 : decode cX12_get 21 = .ok (.getfield 15, 3) := by decide +kernel
theorem k158_21 {d : Nat} {l0 l1 l2 : Option PV} {st : List PV} {M : Mem} {Q : Option PV → Mem → Prop} {r : Nat} (hk : mK M r = 12) : WP d 158 21 [l0, l1, l2] (vr r :: st) M Q = WP d 158 24 [l0, l1, l2] (vr (mR M r 3) :: st) M Q := w_getr mC_158 d158_21 fE_12_15 rfl (by rw [hk]; rfl)
theorem d158_24 : decode cX12_get 24 = .ok (.iload_n 2, 1) := by decide +kernel
theorem k158_24 {d : Nat} {x : Int32} {l0 l1 : Option PV} {st : List PV} {M : Mem} {Q : Option PV → Mem → Prop} : WP d 158 24 [l0, l1, some (vi x)] (st) M Q = WP d 158 25 [l0, l1, some (vi x)] (vi x :: st) M Q := w1 mC_158 d158_24 rfl rfl
theorem d158_25 : decode cX12_get 25 = .ok (.bipush 6, 2) := by decide +kernel
theorem k158_25 {d : Nat} {l0 l1 l2 : Option PV} {st : List PV} {M : Mem} {Q : Option PV → Mem → Prop} : WP d 158 25 [l0, l1, l2] (st) M Q = WP d 158 27 [l0, l1, l2] (vi 6 :: st) M Q := w_bipush mC_158 d158_25 (by decide)
theorem d158_27 : decode cX12_get 27 = .ok (.isub, 1) := by decide +kernel
theorem k158_27 {d : Nat} {l0 l1 l2 : Option PV} {st : List PV} {M : Mem} {Q : Option PV → Mem → Prop} {x y : Int32} : WP d 158 27 [l0, l1, l2] (vi y :: vi x :: st) M Q = WP d 158 28 [l0, l1, l2] (vi (x - y) :: st) M Q := w1 mC_158 d158_27 rfl rfl
theorem d158_28 : decode cX12_get 28 = .ok (.iaload, 1) := by decide +kernel
theorem k158_28 {d : Nat} {l0 l1 l2 : Option PV} {st : List PV} {M : Mem} {Q : Option PV → Mem → Prop} {r : Nat} {j : Int32} (hk : mK M r = 13) (hj : inb j (mN M r)) (h1 : r ≠ 1) : WP d 158 28 [l0, l1, l2] (vi j :: vr r :: st) M Q = WP d 158 29 [l0, l1, l2] (vi (mI M r (ix j)) :: st) M Q := w_iald mC_158 d158_28 (by decide) hk hj h1
theorem d158_29 : decode cX12_get 29 = .ok (.ireturn, 1) := by decide +kernel
theorem k158_29 {d : Nat} {l0 l1 l2 : Option PV} {M : Mem} {Q : Option PV → Mem → Prop} {x : Int32} : WP d 158 29 [l0, l1, l2] ([vi x]) M Q = Q (some (vi x)) M := w_iret mC_158 d158_29 rfl
theorem d159_0 : decode cX12_becomes 0 = .ok (.iload_n 2, 1) := by decide +kernel
theorem k159_0 {d : Nat} {x : Int32} {l0 l1 l3 : Option PV} {st : List PV} {M : Mem} {Q : Option PV → Mem → Prop} : WP d 159 0 [l0, l1, some (vi x), l3] (st) M Q = WP d 159 1 [l0, l1, some (vi x), l3] (vi x :: st) M Q := w1 mC_159 d159_0 rfl rfl
theorem d159_1 : decode cX12_becomes 1 = .ok (.bipush 6, 2) := by decide +kernel
theorem k159_1 {d : Nat} {l0 l1 l2 l3 : Option PV} {st : List PV} {M : Mem} {Q : Option PV → Mem → Prop} : WP d 159 1 [l0, l1, l2, l3] (st) M Q = WP d 159 3 [l0, l1, l2, l3] (vi 6 :: st) M Q := w_bipush mC_159 d159_1 (by decide)
theorem d159_3 : decode cX12_becomes 3 = .ok (.if_icmp .ge 18, 3) := by decide +kernel
theorem k159_3 {d : Nat} {l0 l1 l2 l3 : Option PV} {st : List PV} {M : Mem} {Q : Option PV → Mem → Prop} {x y : Int32} : WP d 159 3 [l0, l1, l2, l3] (vi y :: vi x :: st) M Q = (if y ≤ x then WP d 159 21 [l0, l1, l2, l3] (st) M Q else WP d 159 6 [l0, l1, l2, l3] (st) M Q) := w_ic_ge mC_159 d159_3 (by decide)
theorem d159_6 : decode cX12_becomes 6 = .ok (.aload_n 0, 1) := by decide +kernel
theorem k159_6 {d x : Nat} {l1 l2 l3 : Option PV} {st : List PV} {M : Mem} {Q : Option PV → Mem → Prop} : WP d 159 6 [some (vr x), l1, l2, l3] (st) M Q = WP d 159 7 [some (vr x), l1, l2, l3] (vr x :: st) M Q := w1 mC_159 d159_6 rfl rfl
theorem d159_7 : decode cX12_becomes 7 = .ok (.getfield 9, 3) := by decide +kernel
theorem k159_7 {d : Nat} {l0 l1 l2 l3 : Option PV} {st : List PV} {M : Mem} {Q : Option PV → Mem → Prop} {r : Nat} (hk : mK M r = 12) : WP d 159 7 [l0, l1, l2, l3] (vr r :: st) M Q = WP d 159 10 [l0, l1, l2, l3] (vr (mR M r 2) :: st) M Q := w_getr mC_159 d159_7 fE_12_9 rfl (by rw [hk]; rfl)
theorem d159_10 : decode cX12_becomes 10 = .ok (.bipush 8, 2) := by decide +kernel
theorem k159_10 {d : Nat} {l0 l1 l2 l3 : Option PV} {st : List PV} {M : Mem} {Q : Option PV → Mem → Prop} : WP d 159 10 [l0, l1, l2, l3] (st) M Q = WP d 159 12 [l0, l1, l2, l3] (vi 8 :: st) M Q := w_bipush mC_159 d159_10 (by decide)
theorem d159_12 : decode cX12_becomes 12 = .ok (.iload_n 2, 1) := by decide +kernel
theorem k159_12 {d : Nat} {x : Int32} {l0 l1 l3 : Option PV} {st : List PV} {M : Mem} {Q : Option PV → Mem → Prop} : WP d 159 12 [l0, l1, some (vi x), l3] (st) M Q = WP d 159 13 [l0, l1, some (vi x), l3] (vi x :: st) M Q := w1 mC_159 d159_12 rfl rfl
theorem d159_13 : decode cX12_becomes 13 = .ok (.imul, 1) := by decide +kernel
theorem k159_13 {d : Nat} {l0 l1 l2 l3 : Option PV} {st : List PV} {M : Mem} {Q : Option PV → Mem → Prop} {x y : Int32} : WP d 159 13 [l0, l1, l2, l3] (vi y :: vi x :: st) M Q = WP d 159 14 [l0, l1, l2, l3] (vi (x * y) :: st) M Q := w1 mC_159 d159_13 rfl rfl
theorem d159_14 : decode cX12_becomes 14 = .ok (.iload_n 1, 1) := by decide +kernel
theorem k159_14 {d : Nat} {x : Int32} {l0 l2 l3 : Option PV} {st : List PV} {M : Mem} {Q : Option PV → Mem → Prop} : WP d 159 14 [l0, some (vi x), l2, l3] (st) M Q = WP d 159 15 [l0, some (vi x), l2, l3] (vi x :: st) M Q := w1 mC_159 d159_14 rfl rfl
theorem d159_15 : decode cX12_becomes 15 = .ok (.iadd, 1) := by decide +kernel
theorem k159_15 {d : Nat} {l0 l1 l2 l3 : Option PV} {st : List PV} {M : Mem} {Q : Option PV → Mem → Prop} {x y : Int32} : WP d 159 15 [l0, l1, l2, l3] (vi y :: vi x :: st) M Q = WP d 159 16 [l0, l1, l2, l3] (vi (x + y) :: st) M Q := w1 mC_159 d159_15 rfl rfl
theorem d159_16 : decode cX12_becomes 16 = .ok (.iload_n 3, 1) := by decide +kernel
theorem k159_16 {d : Nat} {x : Int32} {l0 l1 l2 : Option PV} {st : List PV} {M : Mem} {Q : Option PV → Mem → Prop} : WP d 159 16 [l0, l1, l2, some (vi x)] (st) M Q = WP d 159 17 [l0, l1, l2, some (vi x)] (vi x :: st) M Q := w1 mC_159 d159_16 rfl rfl
theorem d159_17 : decode cX12_becomes 17 = .ok (.iastore, 1) := by decide +kernel
theorem k159_17 {d : Nat} {l0 l1 l2 l3 : Option PV} {st : List PV} {M : Mem} {Q : Option PV → Mem → Prop} {r : Nat} {j x : Int32} (hk : mK M r = 13) (hj : inb j (mN M r)) (h1 : r ≠ 1) : WP d 159 17 [l0, l1, l2, l3] (vi x :: vi j :: vr r :: st) M Q = WP d 159 18 [l0, l1, l2, l3] (st) (sI M r (ix j) x) Q := w_iast mC_159 d159_17 hk hj h1
theorem d159_18 : decode cX12_becomes 18 = .ok (.goto 13, 3) := by decide +kernel
theorem k159_18 {d : Nat} {l0 l1 l2 l3 : Option PV} {st : List PV} {M : Mem} {Q : Option PV → Mem → Prop} : WP d 159 18 [l0, l1, l2, l3] (st) M Q = WP d 159 31 [l0, l1, l2, l3] (st) M Q := w_goto mC_159 d159_18 (by decide)
theorem d159_21 : decode cX12_becomes 21 = .ok (.aload_n 0, 1) := by decide +kernel
theorem k159_21 {d x : Nat} {l1 l2 l3 : Option PV} {st : List PV} {M : Mem} {Q : Option PV → Mem → Prop} : WP d 159 21 [some (vr x), l1, l2, l3] (st) M Q = WP d 159 22 [some (vr x), l1, l2, l3] (vr x :: st) M Q := w1 mC_159 d159_21 rfl rfl
theorem d159_22 : decode cX12_becomes 22 = .ok (.getfield 15, 3) := by decide +kernel
theorem k159_22 {d : Nat} {l0 l1 l2 l3 : Option PV} {st : List PV} {M : Mem} {Q : Option PV → Mem → Prop} {r : Nat} (hk : mK M r = 12) : WP d 159 22 [l0, l1, l2, l3] (vr r :: st) M Q = WP d 159 25 [l0, l1, l2, l3] (vr (mR M r 3) :: st) M Q := w_getr mC_159 d159_22 fE_12_15 rfl (by rw [hk]; rfl)
theorem d159_25 : decode cX12_becomes 25 = .ok (.iload_n 2, 1) := by decide +kernel
theorem k159_25 {d : Nat} {x : Int32} {l0 l1 l3 : Option PV} {st : List PV} {M : Mem} {Q : Option PV → Mem → Prop} : WP d 159 25 [l0, l1, some (vi x), l3] (st) M Q = WP d 159 26 [l0, l1, some (vi x), l3] (vi x :: st) M Q := w1 mC_159 d159_25 rfl rfl
theorem d159_26 : decode cX12_becomes 26 = .ok (.bipush 6, 2) := by decide +kernel
theorem k159_26 {d : Nat} {l0 l1 l2 l3 : Option PV} {st : List PV} {M : Mem} {Q : Option PV → Mem → Prop} : WP d 159 26 [l0, l1, l2, l3] (st) M Q = WP d 159 28 [l0, l1, l2, l3] (vi 6 :: st) M Q := w_bipush mC_159 d159_26 (by decide)
theorem d159_28 : decode cX12_becomes 28 = .ok (.isub, 1) := by decide +kernel
theorem k159_28 {d : Nat} {l0 l1 l2 l3 : Option PV} {st : List PV} {M : Mem} {Q : Option PV → Mem → Prop} {x y : Int32} : WP d 159 28 [l0, l1, l2, l3] (vi y :: vi x :: st) M Q = WP d 159 29 [l0, l1, l2, l3] (vi (x - y) :: st) M Q := w1 mC_159 d159_28 rfl rfl
theorem d159_29 : decode cX12_becomes 29 = .ok (.iload_n 3, 1) := by decide +kernel
theorem k159_29 {d : Nat} {x : Int32} {l0 l1 l2 : Option PV} {st : List PV} {M : Mem} {Q : Option PV → Mem → Prop} : WP d 159 29 [l0, l1, l2, some (vi x)] (st) M Q = WP d 159 30 [l0, l1, l2, some (vi x)] (vi x :: st) M Q := w1 mC_159 d159_29 rfl rfl
theorem d159_30 : decode cX12_becomes 30 = .ok (.iastore, 1) := by decide +kernel
theorem k159_30 {d : Nat} {l0 l1 l2 l3 : Option PV} {st : List PV} {M : Mem} {Q : Option PV → Mem → Prop} {r : Nat} {j x : Int32} (hk : mK M r = 13) (hj : inb j (mN M r)) (h1 : r ≠ 1) : WP d 159 30 [l0, l1, l2, l3] (vi x :: vi j :: vr r :: st) M Q = WP d 159 31 [l0, l1, l2, l3] (st) (sI M r (ix j) x) Q := w_iast mC_159 d159_30 hk hj h1
theorem d159_31 : decode cX12_becomes 31 = .ok (.return_, 1) := by decide +kernel
theorem k159_31 {d : Nat} {l0 l1 l2 l3 : Option PV} {M : Mem} {Q : Option PV → Mem → Prop} : WP d 159 31 [l0, l1, l2, l3] ([]) M Q = Q none M := w_vret mC_159 d159_31 rfl
theorem d160_0 : decode cX12_mend 0 = .ok (.aload_n 0, 1) := by decide +kernel
theorem k160_0 {d x : Nat} {l1 l2 l3 l4 l5 : Option PV} {st : List PV} {M : Mem} {Q : Option PV → Mem → Prop} : WP d 160 0 [some (vr x), l1, l2, l3, l4, l5] (st) M Q = WP d 160 1 [some (vr x), l1, l2, l3, l4, l5] (vr x :: st) M Q := w1 mC_160 d160_0 rfl rfl
theorem d160_1 : decode cX12_mend 1 = .ok (.iload_n 1, 1) := by decide +kernel
theorem k160_1 {d : Nat} {x : Int32} {l0 l2 l3 l4 l5 : Option PV} {st : List PV} {M : Mem} {Q : Option PV → Mem → Prop} : WP d 160 1 [l0, some (vi x), l2, l3, l4, l5] (st) M Q = WP d 160 2 [l0, some (vi x), l2, l3, l4, l5] (vi x :: st) M Q := w1 mC_160 d160_1 rfl rfl
theorem d160_2 : decode cX12_mend 2 = .ok (.iload_n 2, 1) := by decide +kernel
theorem k160_2 {d : Nat} {x : Int32} {l0 l1 l3 l4 l5 : Option PV} {st : List PV} {M : Mem} {Q : Option PV → Mem → Prop} : WP d 160 2 [l0, l1, some (vi x), l3, l4, l5] (st) M Q = WP d 160 3 [l0, l1, some (vi x), l3, l4, l5] (vi x :: st) M Q := w1 mC_160 d160_2 rfl rfl
theorem d160_3 : decode cX12_mend 3 = .ok (.invokevirtual 137, 3) := by decide +kernel
theorem k160_3 {d : Nat} {l0 l1 l2 l3 l4 l5 : Option PV} {st : List PV} {M : Mem} {Q : Option PV → Mem → Prop} {a0 a1 : Int32} {r : Nat} (hl : szL st ≤ 8) (hk : mK M r = 12) : WP (d + 1) 160 3 [l0, l1, l2, l3, l4, l5] (vi a1 :: vi a0 :: vr r :: st) M Q = WP d 156 0 [some (vr r), some (vi a0), some (vi a1)] [] M (fun v M' => WP (d + 1) 160 6 [l0, l1, l2, l3, l4, l5] (psh v st) M' Q) := w_callV mC_160 d160_3 (ci := 12) rfl rfl rfl (Nat.le_of_ble_eq_true rfl) (by decide) rfl hl hk
theorem d160_6 : decode cX12_mend 6 = .ok (.ifCond .eq 12, 3) := by decide +kernel
theorem k160_6 {d : Nat} {l0 l1 l2 l3 l4 l5 : Option PV} {st : List PV} {M : Mem} {Q : Option PV → Mem → Prop} {x : Int32} : WP d 160 6 [l0, l1, l2, l3, l4, l5] (vi x :: st) M Q = (if x = 0 then WP d 160 18 [l0, l1, l2, l3, l4, l5] (st) M Q else WP d 160 9 [l0, l1, l2, l3, l4, l5] (st) M Q) := w_if_eq mC_160 d160_6 (by decide)
theorem d160_9 : decode cX12_mend 9 = .ok (.aload_n 0, 1) := by decide +kernel
theorem k160_9 {d x : Nat} {l1 l2 l3 l4 l5 : Option PV} {st : List PV} {M : Mem} {Q : Option PV → Mem → Prop} : WP d 160 9 [some (vr x), l1, l2, l3, l4, l5] (st) M Q = WP d 160 10 [some (vr x), l1, l2, l3, l4, l5] (vr x :: st) M Q := w1 mC_160 d160_9 rfl rfl
theorem d160_10 : decode cX12_mend 10 = .ok (.iload_n 2, 1) := by decide +kernel
theorem k160_10 {d : Nat} {x : Int32} {l0 l1 l3 l4 l5 : Option PV} {st : List PV} {M : Mem} {Q : Option PV → Mem → Prop} : WP d 160 10 [l0, l1, some (vi x), l3, l4, l5] (st) M Q = WP d 160 11 [l0, l1, some (vi x), l3, l4, l5] (vi x :: st) M Q := w1 mC_160 d160_10 rfl rfl
theorem d160_11 : decode cX12_mend 11 = .ok (.iload_n 3, 1) := by decide +kernel
theorem k160_11 {d : Nat} {x : Int32} {l0 l1 l2 l4 l5 : Option PV} {st : List PV} {M : Mem} {Q : Option PV → Mem → Prop} : WP d 160 11 [l0, l1, l2, some (vi x), l4, l5] (st) M Q = WP d 160 12 [l0, l1, l2, some (vi x), l4, l5] (vi x :: st) M Q := w1 mC_160 d160_11 rfl rfl
theorem d160_12 : decode cX12_mend 12 = .ok (.invokevirtual 141, 3) := by decide +kernel
theorem k160_12 {d : Nat} {l0 l1 l2 l3 l4 l5 : Option PV} {st : List PV} {M : Mem} {Q : Option PV → Mem → Prop} {a0 a1 : Int32} {r : Nat} (hl : szL st ≤ 8) (hk : mK M r = 12) : WP (d + 1) 160 12 [l0, l1, l2, l3, l4, l5] (vi a1 :: vi a0 :: vr r :: st) M Q = WP d 157 0 [some (vr r), some (vi a0), some (vi a1)] [] M (fun v M' => WP (d + 1) 160 15 [l0, l1, l2, l3, l4, l5] (psh v st) M' Q) := w_callV mC_160 d160_12 (ci := 12) rfl rfl rfl (Nat.le_of_ble_eq_true rfl) (by decide) rfl hl hk
theorem d160_15 : decode cX12_mend 15 = .ok (.ifCond .ne 6, 3) := by decide +kernel
theorem k160_15 {d : Nat} {l0 l1 l2 l3 l4 l5 : Option PV} {st : List PV} {M : Mem} {Q : Option PV → Mem → Prop} {x : Int32} : WP d 160 15 [l0, l1, l2, l3, l4, l5] (vi x :: st) M Q = (if x = 0 then WP d 160 18 [l0, l1, l2, l3, l4, l5] (st) M Q else WP d 160 21 [l0, l1, l2, l3, l4, l5] (st) M Q) := w_if_ne mC_160 d160_15 (by decide)
theorem d160_18 : decode cX12_mend 18 = .ok (.ldc 144, 2) := by decide +kernel
theorem k160_18 {d : Nat} {l0 l1 l2 l3 l4 l5 : Option PV} {st : List PV} {M : Mem} {Q : Option PV → Mem → Prop} : WP d 160 18 [l0, l1, l2, l3, l4, l5] (st) M Q = WP d 160 20 [l0, l1, l2, l3, l4, l5] (vi (-2000000000) :: st) M Q := w_ldc mC_160 d160_18 rfl
theorem d160_20 : decode cX12_mend 20 = .ok (.ireturn, 1) := by decide +kernel
theorem k160_20 {d : Nat} {l0 l1 l2 l3 l4 l5 : Option PV} {M : Mem} {Q : Option PV → Mem → Prop} {x : Int32} : WP d 160 20 [l0, l1, l2, l3, l4, l5] ([vi x]) M Q = Q (some (vi x)) M := w_iret mC_160 d160_20 rfl
theorem d160_21 : decode cX12_mend 21 = .ok (.aload_n 0, 1) := by decide +kernel
theorem k160_21 {d x : Nat} {l1 l2 l3 l4 l5 : Option PV} {st : List PV} {M : Mem} {Q : Option PV → Mem → Prop} : WP d 160 21 [some (vr x), l1, l2, l3, l4, l5] (st) M Q = WP d 160 22 [some (vr x), l1, l2, l3, l4, l5] (vr x :: st) M Q := w1 mC_160 d160_21 rfl rfl
theorem d160_22 : decode cX12_mend 22 = .ok (.iload_n 1, 1) := by decide +kernel
theorem k160_22 {d : Nat} {x : Int32} {l0 l2 l3 l4 l5 : Option PV} {st : List PV} {M : Mem} {Q : Option PV → Mem → Prop} : WP d 160 22 [l0, some (vi x), l2, l3, l4, l5] (st) M Q = WP d 160 23 [l0, some (vi x), l2, l3, l4, l5] (vi x :: st) M Q := w1 mC_160 d160_22 rfl rfl
theorem d160_23 : decode cX12_mend 23 = .ok (.iload_n 2, 1) := by decide +kernel
theorem k160_23 {d : Nat} {x : Int32} {l0 l1 l3 l4 l5 : Option PV} {st : List PV} {M : Mem} {Q : Option PV → Mem → Prop} : WP d 160 23 [l0, l1, some (vi x), l3, l4, l5] (st) M Q = WP d 160 24 [l0, l1, some (vi x), l3, l4, l5] (vi x :: st) M Q := w1 mC_160 d160_23 rfl rfl
theorem d160_24 : decode cX12_mend 24 = .ok (.invokevirtual 145, 3) := by decide +kernel
theorem k160_24 {d : Nat} {l0 l1 l2 l3 l4 l5 : Option PV} {st : List PV} {M : Mem} {Q : Option PV → Mem → Prop} {a0 a1 : Int32} {r : Nat} (hl : szL st ≤ 8) (hk : mK M r = 12) : WP (d + 1) 160 24 [l0, l1, l2, l3, l4, l5] (vi a1 :: vi a0 :: vr r :: st) M Q = WP d 158 0 [some (vr r), some (vi a0), some (vi a1)] [] M (fun v M' => WP (d + 1) 160 27 [l0, l1, l2, l3, l4, l5] (psh v st) M' Q) := w_callV mC_160 d160_24 (ci := 12) rfl rfl rfl (Nat.le_of_ble_eq_true rfl) (by decide) rfl hl hk
theorem d160_27 : decode cX12_mend 27 = .ok (.istore 4, 2) := by decide +kernel
theorem k160_27 {d : Nat} {l0 l1 l2 l3 l4 l5 : Option PV} {st : List PV} {M : Mem} {Q : Option PV → Mem → Prop} {x : Int32} : WP d 160 27 [l0, l1, l2, l3, l4, l5] (vi x :: st) M Q = WP d 160 29 [l0, l1, l2, l3, some (vi x), l5] (st) M Q := w1 mC_160 d160_27 rfl rfl
theorem d160_29 : decode cX12_mend 29 = .ok (.iload 4, 2) := by decide +kernel
theorem k160_29 {d : Nat} {x : Int32} {l0 l1 l2 l3 l5 : Option PV} {st : List PV} {M : Mem} {Q : Option PV → Mem → Prop} : WP d 160 29 [l0, l1, l2, l3, some (vi x), l5] (st) M Q = WP d 160 31 [l0, l1, l2, l3, some (vi x), l5] (vi x :: st) M Q := w1 mC_160 d160_29 rfl rfl
theorem d160_31 : decode cX12_mend 31 = .ok (.iload_n 3, 1) := by decide +kernel
theorem k160_31 {d : Nat} {x : Int32} {l0 l1 l2 l4 l5 : Option PV} {st : List PV} {M : Mem} {Q : Option PV → Mem → Prop} : WP d 160 31 [l0, l1, l2, some (vi x), l4, l5] (st) M Q = WP d 160 32 [l0, l1, l2, some (vi x), l4, l5] (vi x :: st) M Q := w1 mC_160 d160_31 rfl rfl
theorem d160_32 : decode cX12_mend 32 = .ok (.if_icmp .ne 6, 3) := by decide +kernel
theorem k160_32 {d : Nat} {l0 l1 l2 l3 l4 l5 : Option PV} {st : List PV} {M : Mem} {Q : Option PV → Mem → Prop} {x y : Int32} : WP d 160 32 [l0, l1, l2, l3, l4, l5] (vi y :: vi x :: st) M Q = (if x = y then WP d 160 35 [l0, l1, l2, l3, l4, l5] (st) M Q else WP d 160 38 [l0, l1, l2, l3, l4, l5] (st) M Q) := w_ic_ne mC_160 d160_32 (by decide)
theorem d160_35 : decode cX12_mend 35 = .ok (.iload 4, 2) := by decide +kernel
theorem k160_35 {d : Nat} {x : Int32} {l0 l1 l2 l3 l5 : Option PV} {st : List PV} {M : Mem} {Q : Option PV → Mem → Prop} : WP d 160 35 [l0, l1, l2, l3, some (vi x), l5] (st) M Q = WP d 160 37 [l0, l1, l2, l3, some (vi x), l5] (vi x :: st) M Q := w1 mC_160 d160_35 rfl rfl
theorem d160_37 : decode cX12_mend 37 = .ok (.ireturn, 1) := by decide +kernel
theorem k160_37 {d : Nat} {l0 l1 l2 l3 l4 l5 : Option PV} {M : Mem} {Q : Option PV → Mem → Prop} {x : Int32} : WP d 160 37 [l0, l1, l2, l3, l4, l5] ([vi x]) M Q = Q (some (vi x)) M := w_iret mC_160 d160_37 rfl
theorem d160_38 : decode cX12_mend 38 = .ok (.aload_n 0, 1) := by decide +kernel
theorem k160_38 {d x : Nat} {l1 l2 l3 l4 l5 : Option PV} {st : List PV} {M : Mem} {Q : Option PV → Mem → Prop} : WP d 160 38 [some (vr x), l1, l2, l3, l4, l5] (st) M Q = WP d 160 39 [some (vr x), l1, l2, l3, l4, l5] (vr x :: st) M Q := w1 mC_160 d160_38 rfl rfl
theorem d160_39 : decode cX12_mend 39 = .ok (.iload_n 1, 1) := by decide +kernel
theorem k160_39 {d : Nat} {x : Int32} {l0 l2 l3 l4 l5 : Option PV} {st : List PV} {M : Mem} {Q : Option PV → Mem → Prop} : WP d 160 39 [l0, some (vi x), l2, l3, l4, l5] (st) M Q = WP d 160 40 [l0, some (vi x), l2, l3, l4, l5] (vi x :: st) M Q := w1 mC_160 d160_39 rfl rfl
theorem d160_40 : decode cX12_mend 40 = .ok (.iload_n 2, 1) := by decide +kernel
theorem k160_40 {d : Nat} {x : Int32} {l0 l1 l3 l4 l5 : Option PV} {st : List PV} {M : Mem} {Q : Option PV → Mem → Prop} : WP d 160 40 [l0, l1, some (vi x), l3, l4, l5] (st) M Q = WP d 160 41 [l0, l1, some (vi x), l3, l4, l5] (vi x :: st) M Q := w1 mC_160 d160_40 rfl rfl
theorem d160_41 : decode cX12_mend 41 = .ok (.iload_n 3, 1) := by decide +kernel
theorem k160_41 {d : Nat} {x : Int32} {l0 l1 l2 l4 l5 : Option PV} {st : List PV} {M : Mem} {Q : Option PV → Mem → Prop} : WP d 160 41 [l0, l1, l2, some (vi x), l4, l5] (st) M Q = WP d 160 42 [l0, l1, l2, some (vi x), l4, l5] (vi x :: st) M Q := w1 mC_160 d160_41 rfl rfl
theorem d160_42 : decode cX12_mend 42 = .ok (.invokevirtual 148, 3) := by decide +kernel
theorem k160_42 {d : Nat} {l0 l1 l2 l3 l4 l5 : Option PV} {st : List PV} {M : Mem} {Q : Option PV → Mem → Prop} {a0 a1 a2 : Int32} {r : Nat} (hl : szL st ≤ 8) (hk : mK M r = 12) : WP (d + 1) 160 42 [l0, l1, l2, l3, l4, l5] (vi a2 :: vi a1 :: vi a0 :: vr r :: st) M Q = WP d 159 0 [some (vr r), some (vi a0), some (vi a1), some (vi a2)] [] M (fun v M' => WP (d + 1) 160 45 [l0, l1, l2, l3, l4, l5] (psh v st) M' Q) := w_callV mC_160 d160_42 (ci := 12) rfl rfl rfl (Nat.le_of_ble_eq_true rfl) (by decide) rfl hl hk
theorem d160_45 : decode cX12_mend 45 = .ok (.aload_n 0, 1) := by decide +kernel
theorem k160_45 {d x : Nat} {l1 l2 l3 l4 l5 : Option PV} {st : List PV} {M : Mem} {Q : Option PV → Mem → Prop} : WP d 160 45 [some (vr x), l1, l2, l3, l4, l5] (st) M Q = WP d 160 46 [some (vr x), l1, l2, l3, l4, l5] (vr x :: st) M Q := w1 mC_160 d160_45 rfl rfl
theorem d160_46 : decode cX12_mend 46 = .ok (.getfield 152, 3) := by decide +kernel
theorem k160_46 {d : Nat} {l0 l1 l2 l3 l4 l5 : Option PV} {st : List PV} {M : Mem} {Q : Option PV → Mem → Prop} {r : Nat} (hk : mK M r = 12) : WP d 160 46 [l0, l1, l2, l3, l4, l5] (vr r :: st) M Q = WP d 160 49 [l0, l1, l2, l3, l4, l5] (vi (mI M r 29) :: st) M Q := w_get mC_160 d160_46 fE_12_152 rfl (by rw [hk]; rfl)
theorem d160_49 : decode cX12_mend 49 = .ok (.bipush 40, 2) := by decide +kernel
theorem k160_49 {d : Nat} {l0 l1 l2 l3 l4 l5 : Option PV} {st : List PV} {M : Mem} {Q : Option PV → Mem → Prop} : WP d 160 49 [l0, l1, l2, l3, l4, l5] (st) M Q = WP d 160 51 [l0, l1, l2, l3, l4, l5] (vi 40 :: st) M Q := w_bipush mC_160 d160_49 (by decide)
theorem d160_51 : decode cX12_mend 51 = .ok (.if_icmp .ne 46, 3) := by decide +kernel
theorem k160_51 {d : Nat} {l0 l1 l2 l3 l4 l5 : Option PV} {st : List PV} {M : Mem} {Q : Option PV → Mem → Prop} {x y : Int32} : WP d 160 51 [l0, l1, l2, l3, l4, l5] (vi y :: vi x :: st) M Q = (if x = y then WP d 160 54 [l0, l1, l2, l3, l4, l5] (st) M Q else WP d 160 97 [l0, l1, l2, l3, l4, l5] (st) M Q) := w_ic_ne mC_160 d160_51 (by decide)
theorem d160_54 : decode cX12_mend 54 = .ok (.iconst 0, 1) := by decide +kernel
theorem k160_54 {d : Nat} {l0 l1 l2 l3 l4 l5 : Option PV} {st : List PV} {M : Mem} {Q : Option PV → Mem → Prop} : WP d 160 54 [l0, l1, l2, l3, l4, l5] (st) M Q = WP d 160 55 [l0, l1, l2, l3, l4, l5] (vi 0 :: st) M Q := w_iconst mC_160 d160_54 (by decide)
theorem d160_55 : decode cX12_mend 55 = .ok (.istore 5, 2) := by decide +kernel
theorem k160_55 {d : Nat} {l0 l1 l2 l3 l4 l5 : Option PV} {st : List PV} {M : Mem} {Q : Option PV → Mem → Prop} {x : Int32} : WP d 160 55 [l0, l1, l2, l3, l4, l5] (vi x :: st) M Q = WP d 160 57 [l0, l1, l2, l3, l4, some (vi x)] (st) M Q := w1 mC_160 d160_55 rfl rfl
theorem d160_57 : decode cX12_mend 57 = .ok (.iload 5, 2) := by decide +kernel
theorem k160_57 {d : Nat} {x : Int32} {l0 l1 l2 l3 l4 : Option PV} {st : List PV} {M : Mem} {Q : Option PV → Mem → Prop} : WP d 160 57 [l0, l1, l2, l3, l4, some (vi x)] (st) M Q = WP d 160 59 [l0, l1, l2, l3, l4, some (vi x)] (vi x :: st) M Q := w1 mC_160 d160_57 rfl rfl
theorem d160_59 : decode cX12_mend 59 = .ok (.sipush 156, 3) := by decide +kernel
theorem k160_59 {d : Nat} {l0 l1 l2 l3 l4 l5 : Option PV} {st : List PV} {M : Mem} {Q : Option PV → Mem → Prop} : WP d 160 59 [l0, l1, l2, l3, l4, l5] (st) M Q = WP d 160 62 [l0, l1, l2, l3, l4, l5] (vi 156 :: st) M Q := w_sipush mC_160 d160_59 (by decide)
theorem d160_62 : decode cX12_mend 62 = .ok (.if_icmp .ge 25, 3) := by decide +kernel
theorem k160_62 {d : Nat} {l0 l1 l2 l3 l4 l5 : Option PV} {st : List PV} {M : Mem} {Q : Option PV → Mem → Prop} {x y : Int32} : WP d 160 62 [l0, l1, l2, l3, l4, l5] (vi y :: vi x :: st) M Q = (if y ≤ x then WP d 160 87 [l0, l1, l2, l3, l4, l5] (st) M Q else WP d 160 65 [l0, l1, l2, l3, l4, l5] (st) M Q) := w_ic_ge mC_160 d160_62 (by decide)
theorem d160_65 : decode cX12_mend 65 = .ok (.aload_n 0, 1) := by decide +kernel
theorem k160_65 {d x : Nat} {l1 l2 l3 l4 l5 : Option PV} {st : List PV} {M : Mem} {Q : Option PV → Mem → Prop} : WP d 160 65 [some (vr x), l1, l2, l3, l4, l5] (st) M Q = WP d 160 66 [some (vr x), l1, l2, l3, l4, l5] (vr x :: st) M Q := w1 mC_160 d160_65 rfl rfl
theorem d160_66 : decode cX12_mend 66 = .ok (.getfield 60, 3) := by decide +kernel
theorem k160_66 {d : Nat} {l0 l1 l2 l3 l4 l5 : Option PV} {st : List PV} {M : Mem} {Q : Option PV → Mem → Prop} {r : Nat} (hk : mK M r = 12) : WP d 160 66 [l0, l1, l2, l3, l4, l5] (vr r :: st) M Q = WP d 160 69 [l0, l1, l2, l3, l4, l5] (vr (mR M r 30) :: st) M Q := w_getr mC_160 d160_66 fE_12_60 rfl (by rw [hk]; rfl)
theorem d160_69 : decode cX12_mend 69 = .ok (.iload 5, 2) := by decide +kernel
theorem k160_69 {d : Nat} {x : Int32} {l0 l1 l2 l3 l4 : Option PV} {st : List PV} {M : Mem} {Q : Option PV → Mem → Prop} : WP d 160 69 [l0, l1, l2, l3, l4, some (vi x)] (st) M Q = WP d 160 71 [l0, l1, l2, l3, l4, some (vi x)] (vi x :: st) M Q := w1 mC_160 d160_69 rfl rfl
theorem d160_71 : decode cX12_mend 71 = .ok (.aload_n 0, 1) := by decide +kernel
theorem k160_71 {d x : Nat} {l1 l2 l3 l4 l5 : Option PV} {st : List PV} {M : Mem} {Q : Option PV → Mem → Prop} : WP d 160 71 [some (vr x), l1, l2, l3, l4, l5] (st) M Q = WP d 160 72 [some (vr x), l1, l2, l3, l4, l5] (vr x :: st) M Q := w1 mC_160 d160_71 rfl rfl
theorem d160_72 : decode cX12_mend 72 = .ok (.getfield 60, 3) := by decide +kernel
theorem k160_72 {d : Nat} {l0 l1 l2 l3 l4 l5 : Option PV} {st : List PV} {M : Mem} {Q : Option PV → Mem → Prop} {r : Nat} (hk : mK M r = 12) : WP d 160 72 [l0, l1, l2, l3, l4, l5] (vr r :: st) M Q = WP d 160 75 [l0, l1, l2, l3, l4, l5] (vr (mR M r 30) :: st) M Q := w_getr mC_160 d160_72 fE_12_60 rfl (by rw [hk]; rfl)
theorem d160_75 : decode cX12_mend 75 = .ok (.iload 5, 2) := by decide +kernel
theorem k160_75 {d : Nat} {x : Int32} {l0 l1 l2 l3 l4 : Option PV} {st : List PV} {M : Mem} {Q : Option PV → Mem → Prop} : WP d 160 75 [l0, l1, l2, l3, l4, some (vi x)] (st) M Q = WP d 160 77 [l0, l1, l2, l3, l4, some (vi x)] (vi x :: st) M Q := w1 mC_160 d160_75 rfl rfl
theorem d160_77 : decode cX12_mend 77 = .ok (.iconst 4, 1) := by decide +kernel
theorem k160_77 {d : Nat} {l0 l1 l2 l3 l4 l5 : Option PV} {st : List PV} {M : Mem} {Q : Option PV → Mem → Prop} : WP d 160 77 [l0, l1, l2, l3, l4, l5] (st) M Q = WP d 160 78 [l0, l1, l2, l3, l4, l5] (vi 4 :: st) M Q := w_iconst mC_160 d160_77 (by decide)
theorem d160_78 : decode cX12_mend 78 = .ok (.iadd, 1) := by decide +kernel
theorem k160_78 {d : Nat} {l0 l1 l2 l3 l4 l5 : Option PV} {st : List PV} {M : Mem} {Q : Option PV → Mem → Prop} {x y : Int32} : WP d 160 78 [l0, l1, l2, l3, l4, l5] (vi y :: vi x :: st) M Q = WP d 160 79 [l0, l1, l2, l3, l4, l5] (vi (x + y) :: st) M Q := w1 mC_160 d160_78 rfl rfl
theorem d160_79 : decode cX12_mend 79 = .ok (.iaload, 1) := by decide +kernel
theorem k160_79 {d : Nat} {l0 l1 l2 l3 l4 l5 : Option PV} {st : List PV} {M : Mem} {Q : Option PV → Mem → Prop} {r : Nat} {j : Int32} (hk : mK M r = 13) (hj : inb j (mN M r)) (h1 : r ≠ 1) : WP d 160 79 [l0, l1, l2, l3, l4, l5] (vi j :: vr r :: st) M Q = WP d 160 80 [l0, l1, l2, l3, l4, l5] (vi (mI M r (ix j)) :: st) M Q := w_iald mC_160 d160_79 (by decide) hk hj h1
theorem d160_80 : decode cX12_mend 80 = .ok (.iastore, 1) := by decide +kernel
theorem k160_80 {d : Nat} {l0 l1 l2 l3 l4 l5 : Option PV} {st : List PV} {M : Mem} {Q : Option PV → Mem → Prop} {r : Nat} {j x : Int32} (hk : mK M r = 13) (hj : inb j (mN M r)) (h1 : r ≠ 1) : WP d 160 80 [l0, l1, l2, l3, l4, l5] (vi x :: vi j :: vr r :: st) M Q = WP d 160 81 [l0, l1, l2, l3, l4, l5] (st) (sI M r (ix j) x) Q := w_iast mC_160 d160_80 hk hj h1
theorem d160_81 : decode cX12_mend 81 = .ok (.iinc 5 1, 3) := by decide +kernel
theorem k160_81 {d : Nat} {x : Int32} {l0 l1 l2 l3 l4 : Option PV} {st : List PV} {M : Mem} {Q : Option PV → Mem → Prop} : WP d 160 81 [l0, l1, l2, l3, l4, some (vi x)] (st) M Q = WP d 160 84 [l0, l1, l2, l3, l4, some (vi (x + 1))] (st) M Q := w_iinc mC_160 d160_81 rfl (by decide) rfl
theorem d160_84 : decode cX12_mend 84 = .ok (.goto (-27), 3) := by decide +kernel
theorem k160_84 {d : Nat} {l0 l1 l2 l3 l4 l5 : Option PV} {st : List PV} {M : Mem} {Q : Option PV → Mem → Prop} : WP d 160 84 [l0, l1, l2, l3, l4, l5] (st) M Q = WP d 160 57 [l0, l1, l2, l3, l4, l5] (st) M Q := w_goto mC_160 d160_84 (by decide)
theorem d160_87 : decode cX12_mend 87 = .ok (.aload_n 0, 1) := by decide +kernel
theorem k160_87 {d x : Nat} {l1 l2 l3 l4 l5 : Option PV} {st : List PV} {M : Mem} {Q : Option PV → Mem → Prop} : WP d 160 87 [some (vr x), l1, l2, l3, l4, l5] (st) M Q = WP d 160 88 [some (vr x), l1, l2, l3, l4, l5] (vr x :: st) M Q := w1 mC_160 d160_87 rfl rfl
theorem d160_88 : decode cX12_mend 88 = .ok (.dup, 1) := by decide +kernel
theorem k160_88 {d : Nat} {l0 l1 l2 l3 l4 l5 : Option PV} {st : List PV} {M : Mem} {Q : Option PV → Mem → Prop} {x : Nat} : WP d 160 88 [l0, l1, l2, l3, l4, l5] (vr x :: st) M Q = WP d 160 89 [l0, l1, l2, l3, l4, l5] (vr x :: vr x :: st) M Q := w1 mC_160 d160_88 rfl rfl
theorem k160_88i {d : Nat} {l0 l1 l2 l3 l4 l5 : Option PV} {st : List PV} {M : Mem} {Q : Option PV → Mem → Prop} {x : Int32} : WP d 160 88 [l0, l1, l2, l3, l4, l5] (vi x :: st) M Q = WP d 160 89 [l0, l1, l2, l3, l4, l5] (vi x :: vi x :: st) M Q := w1 mC_160 d160_88 rfl rfl
theorem d160_89 : decode cX12_mend 89 = .ok (.getfield 152, 3) := by decide +kernel
theorem k160_89 {d : Nat} {l0 l1 l2 l3 l4 l5 : Option PV} {st : List PV} {M : Mem} {Q : Option PV → Mem → Prop} {r : Nat} (hk : mK M r = 12) : WP d 160 89 [l0, l1, l2, l3, l4, l5] (vr r :: st) M Q = WP d 160 92 [l0, l1, l2, l3, l4, l5] (vi (mI M r 29) :: st) M Q := w_get mC_160 d160_89 fE_12_152 rfl (by rw [hk]; rfl)
theorem d160_92 : decode cX12_mend 92 = .ok (.iconst 1, 1) := by decide +kernel
theorem k160_92 {d : Nat} {l0 l1 l2 l3 l4 l5 : Option PV} {st : List PV} {M : Mem} {Q : Option PV → Mem → Prop} : WP d 160 92 [l0, l1, l2, l3, l4, l5] (st) M Q = WP d 160 93 [l0, l1, l2, l3, l4, l5] (vi 1 :: st) M Q := w_iconst mC_160 d160_92 (by decide)
theorem d160_93 : decode cX12_mend 93 = .ok (.isub, 1) := by decide +kernel
theorem k160_93 {d : Nat} {l0 l1 l2 l3 l4 l5 : Option PV} {st : List PV} {M : Mem} {Q : Option PV → Mem → Prop} {x y : Int32} : WP d 160 93 [l0, l1, l2, l3, l4, l5] (vi y :: vi x :: st) M Q = WP d 160 94 [l0, l1, l2, l3, l4, l5] (vi (x - y) :: st) M Q := w1 mC_160 d160_93 rfl rfl
theorem d160_94 : decode cX12_mend 94 = .ok (.putfield 152, 3) := by decide +kernel
theorem k160_94 {d : Nat} {l0 l1 l2 l3 l4 l5 : Option PV} {st : List PV} {M : Mem} {Q : Option PV → Mem → Prop} {r : Nat} {x : Int32} (hk : mK M r = 12) : WP d 160 94 [l0, l1, l2, l3, l4, l5] (vi x :: vr r :: st) M Q = WP d 160 97 [l0, l1, l2, l3, l4, l5] (st) (sI M r 29 x) Q := w_put mC_160 d160_94 fE_12_152 (by decide +kernel) (by rw [hk]; rfl)
theorem d160_97 : decode cX12_mend 97 = .ok (.aload_n 0, 1) := by decide +kernel
theorem k160_97 {d x : Nat} {l1 l2 l3 l4 l5 : Option PV} {st : List PV} {M : Mem} {Q : Option PV → Mem → Prop} : WP d 160 97 [some (vr x), l1, l2, l3, l4, l5] (st) M Q = WP d 160 98 [some (vr x), l1, l2, l3, l4, l5] (vr x :: st) M Q := w1 mC_160 d160_97 rfl rfl
theorem d160_98 : decode cX12_mend 98 = .ok (.getfield 60, 3) := by decide +kernel
theorem k160_98 {d : Nat} {l0 l1 l2 l3 l4 l5 : Option PV} {st : List PV} {M : Mem} {Q : Option PV → Mem → Prop} {r : Nat} (hk : mK M r = 12) : WP d 160 98 [l0, l1, l2, l3, l4, l5] (vr r :: st) M Q = WP d 160 101 [l0, l1, l2, l3, l4, l5] (vr (mR M r 30) :: st) M Q := w_getr mC_160 d160_98 fE_12_60 rfl (by rw [hk]; rfl)
theorem d160_101 : decode cX12_mend 101 = .ok (.iconst 4, 1) := by decide +kernel
theorem k160_101 {d : Nat} {l0 l1 l2 l3 l4 l5 : Option PV} {st : List PV} {M : Mem} {Q : Option PV → Mem → Prop} : WP d 160 101 [l0, l1, l2, l3, l4, l5] (st) M Q = WP d 160 102 [l0, l1, l2, l3, l4, l5] (vi 4 :: st) M Q := w_iconst mC_160 d160_101 (by decide)
theorem d160_102 : decode cX12_mend 102 = .ok (.aload_n 0, 1) := by decide +kernel
theorem k160_102 {d x : Nat} {l1 l2 l3 l4 l5 : Option PV} {st : List PV} {M : Mem} {Q : Option PV → Mem → Prop} : WP d 160 102 [some (vr x), l1, l2, l3, l4, l5] (st) M Q = WP d 160 103 [some (vr x), l1, l2, l3, l4, l5] (vr x :: st) M Q := w1 mC_160 d160_102 rfl rfl
theorem d160_103 : decode cX12_mend 103 = .ok (.getfield 152, 3) := by decide +kernel
theorem k160_103 {d : Nat} {l0 l1 l2 l3 l4 l5 : Option PV} {st : List PV} {M : Mem} {Q : Option PV → Mem → Prop} {r : Nat} (hk : mK M r = 12) : WP d 160 103 [l0, l1, l2, l3, l4, l5] (vr r :: st) M Q = WP d 160 106 [l0, l1, l2, l3, l4, l5] (vi (mI M r 29) :: st) M Q := w_get mC_160 d160_103 fE_12_152 rfl (by rw [hk]; rfl)
theorem d160_106 : decode cX12_mend 106 = .ok (.imul, 1) := by decide +kernel
theorem k160_106 {d : Nat} {l0 l1 l2 l3 l4 l5 : Option PV} {st : List PV} {M : Mem} {Q : Option PV → Mem → Prop} {x y : Int32} : WP d 160 106 [l0, l1, l2, l3, l4, l5] (vi y :: vi x :: st) M Q = WP d 160 107 [l0, l1, l2, l3, l4, l5] (vi (x * y) :: st) M Q := w1 mC_160 d160_106 rfl rfl
theorem d160_107 : decode cX12_mend 107 = .ok (.iload_n 1, 1) := by decide +kernel
theorem k160_107 {d : Nat} {x : Int32} {l0 l2 l3 l4 l5 : Option PV} {st : List PV} {M : Mem} {Q : Option PV → Mem → Prop} : WP d 160 107 [l0, some (vi x), l2, l3, l4, l5] (st) M Q = WP d 160 108 [l0, some (vi x), l2, l3, l4, l5] (vi x :: st) M Q := w1 mC_160 d160_107 rfl rfl
theorem d160_108 : decode cX12_mend 108 = .ok (.iastore, 1) := by decide +kernel
theorem k160_108 {d : Nat} {l0 l1 l2 l3 l4 l5 : Option PV} {st : List PV} {M : Mem} {Q : Option PV → Mem → Prop} {r : Nat} {j x : Int32} (hk : mK M r = 13) (hj : inb j (mN M r)) (h1 : r ≠ 1) : WP d 160 108 [l0, l1, l2, l3, l4, l5] (vi x :: vi j :: vr r :: st) M Q = WP d 160 109 [l0, l1, l2, l3, l4, l5] (st) (sI M r (ix j) x) Q := w_iast mC_160 d160_108 hk hj h1
theorem d160_109 : decode cX12_mend 109 = .ok (.aload_n 0, 1) := by decide +kernel
theorem k160_109 {d x : Nat} {l1 l2 l3 l4 l5 : Option PV} {st : List PV} {M : Mem} {Q : Option PV → Mem → Prop} : WP d 160 109 [some (vr x), l1, l2, l3, l4, l5] (st) M Q = WP d 160 110 [some (vr x), l1, l2, l3, l4, l5] (vr x :: st) M Q := w1 mC_160 d160_109 rfl rfl
theorem d160_110 : decode cX12_mend 110 = .ok (.getfield 60, 3) := by decide +kernel
theorem k160_110 {d : Nat} {l0 l1 l2 l3 l4 l5 : Option PV} {st : List PV} {M : Mem} {Q : Option PV → Mem → Prop} {r : Nat} (hk : mK M r = 12) : WP d 160 110 [l0, l1, l2, l3, l4, l5] (vr r :: st) M Q = WP d 160 113 [l0, l1, l2, l3, l4, l5] (vr (mR M r 30) :: st) M Q := w_getr mC_160 d160_110 fE_12_60 rfl (by rw [hk]; rfl)
theorem d160_113 : decode cX12_mend 113 = .ok (.iconst 4, 1) := by decide +kernel
theorem k160_113 {d : Nat} {l0 l1 l2 l3 l4 l5 : Option PV} {st : List PV} {M : Mem} {Q : Option PV → Mem → Prop} : WP d 160 113 [l0, l1, l2, l3, l4, l5] (st) M Q = WP d 160 114 [l0, l1, l2, l3, l4, l5] (vi 4 :: st) M Q := w_iconst mC_160 d160_113 (by decide)
theorem d160_114 : decode cX12_mend 114 = .ok (.aload_n 0, 1) := by decide +kernel
theorem k160_114 {d x : Nat} {l1 l2 l3 l4 l5 : Option PV} {st : List PV} {M : Mem} {Q : Option PV → Mem → Prop} : WP d 160 114 [some (vr x), l1, l2, l3, l4, l5] (st) M Q = WP d 160 115 [some (vr x), l1, l2, l3, l4, l5] (vr x :: st) M Q := w1 mC_160 d160_114 rfl rfl
theorem d160_115 : decode cX12_mend 115 = .ok (.getfield 152, 3) := by decide +kernel
theorem k160_115 {d : Nat} {l0 l1 l2 l3 l4 l5 : Option PV} {st : List PV} {M : Mem} {Q : Option PV → Mem → Prop} {r : Nat} (hk : mK M r = 12) : WP d 160 115 [l0, l1, l2, l3, l4, l5] (vr r :: st) M Q = WP d 160 118 [l0, l1, l2, l3, l4, l5] (vi (mI M r 29) :: st) M Q := w_get mC_160 d160_115 fE_12_152 rfl (by rw [hk]; rfl)
theorem d160_118 : decode cX12_mend 118 = .ok (.imul, 1) := by decide +kernel
theorem k160_118 {d : Nat} {l0 l1 l2 l3 l4 l5 : Option PV} {st : List PV} {M : Mem} {Q : Option PV → Mem → Prop} {x y : Int32} : WP d 160 118 [l0, l1, l2, l3, l4, l5] (vi y :: vi x :: st) M Q = WP d 160 119 [l0, l1, l2, l3, l4, l5] (vi (x * y) :: st) M Q := w1 mC_160 d160_118 rfl rfl
theorem d160_119 : decode cX12_mend 119 = .ok (.iconst 1, 1) := by decide +kernel
theorem k160_119 {d : Nat} {l0 l1 l2 l3 l4 l5 : Option PV} {st : List PV} {M : Mem} {Q : Option PV → Mem → Prop} : WP d 160 119 [l0, l1, l2, l3, l4, l5] (st) M Q = WP d 160 120 [l0, l1, l2, l3, l4, l5] (vi 1 :: st) M Q := w_iconst mC_160 d160_119 (by decide)
theorem d160_120 : decode cX12_mend 120 = .ok (.iadd, 1) := by decide +kernel
theorem k160_120 {d : Nat} {l0 l1 l2 l3 l4 l5 : Option PV} {st : List PV} {M : Mem} {Q : Option PV → Mem → Prop} {x y : Int32} : WP d 160 120 [l0, l1, l2, l3, l4, l5] (vi y :: vi x :: st) M Q = WP d 160 121 [l0, l1, l2, l3, l4, l5] (vi (x + y) :: st) M Q := w1 mC_160 d160_120 rfl rfl
theorem d160_121 : decode cX12_mend 121 = .ok (.iload_n 2, 1) := by decide +kernel
theorem k160_121 {d : Nat} {x : Int32} {l0 l1 l3 l4 l5 : Option PV} {st : List PV} {M : Mem} {Q : Option PV → Mem → Prop} : WP d 160 121 [l0, l1, some (vi x), l3, l4, l5] (st) M Q = WP d 160 122 [l0, l1, some (vi x), l3, l4, l5] (vi x :: st) M Q := w1 mC_160 d160_121 rfl rfl
theorem d160_122 : decode cX12_mend 122 = .ok (.iastore, 1) := by decide +kernel
theorem k160_122 {d : Nat} {l0 l1 l2 l3 l4 l5 : Option PV} {st : List PV} {M : Mem} {Q : Option PV → Mem → Prop} {r : Nat} {j x : Int32} (hk : mK M r = 13) (hj : inb j (mN M r)) (h1 : r ≠ 1) : WP d 160 122 [l0, l1, l2, l3, l4, l5] (vi x :: vi j :: vr r :: st) M Q = WP d 160 123 [l0, l1, l2, l3, l4, l5] (st) (sI M r (ix j) x) Q := w_iast mC_160 d160_122 hk hj h1
theorem d160_123 : decode cX12_mend 123 = .ok (.aload_n 0, 1) := by decide +kernel
theorem k160_123 {d x : Nat} {l1 l2 l3 l4 l5 : Option PV} {st : List PV} {M : Mem} {Q : Option PV → Mem → Prop} : WP d 160 123 [some (vr x), l1, l2, l3, l4, l5] (st) M Q = WP d 160 124 [some (vr x), l1, l2, l3, l4, l5] (vr x :: st) M Q := w1 mC_160 d160_123 rfl rfl
theorem d160_124 : decode cX12_mend 124 = .ok (.getfield 60, 3) := by decide +kernel
theorem k160_124 {d : Nat} {l0 l1 l2 l3 l4 l5 : Option PV} {st : List PV} {M : Mem} {Q : Option PV → Mem → Prop} {r : Nat} (hk : mK M r = 12) : WP d 160 124 [l0, l1, l2, l3, l4, l5] (vr r :: st) M Q = WP d 160 127 [l0, l1, l2, l3, l4, l5] (vr (mR M r 30) :: st) M Q := w_getr mC_160 d160_124 fE_12_60 rfl (by rw [hk]; rfl)
theorem d160_127 : decode cX12_mend 127 = .ok (.iconst 4, 1) := by decide +kernel
theorem k160_127 {d : Nat} {l0 l1 l2 l3 l4 l5 : Option PV} {st : List PV} {M : Mem} {Q : Option PV → Mem → Prop} : WP d 160 127 [l0, l1, l2, l3, l4, l5] (st) M Q = WP d 160 128 [l0, l1, l2, l3, l4, l5] (vi 4 :: st) M Q := w_iconst mC_160 d160_127 (by decide)
theorem d160_128 : decode cX12_mend 128 = .ok (.aload_n 0, 1) := by decide +kernel
theorem k160_128 {d x : Nat} {l1 l2 l3 l4 l5 : Option PV} {st : List PV} {M : Mem} {Q : Option PV → Mem → Prop} : WP d 160 128 [some (vr x), l1, l2, l3, l4, l5] (st) M Q = WP d 160 129 [some (vr x), l1, l2, l3, l4, l5] (vr x :: st) M Q := w1 mC_160 d160_128 rfl rfl
theorem d160_129 : decode cX12_mend 129 = .ok (.getfield 152, 3) := by decide +kernel
theorem k160_129 {d : Nat} {l0 l1 l2 l3 l4 l5 : Option PV} {st : List PV} {M : Mem} {Q : Option PV → Mem → Prop} {r : Nat} (hk : mK M r = 12) : WP d 160 129 [l0, l1, l2, l3, l4, l5] (vr r :: st) M Q = WP d 160 132 [l0, l1, l2, l3, l4, l5] (vi (mI M r 29) :: st) M Q := w_get mC_160 d160_129 fE_12_152 rfl (by rw [hk]; rfl)
theorem d160_132 : decode cX12_mend 132 = .ok (.imul, 1) := by decide +kernel
theorem k160_132 {d : Nat} {l0 l1 l2 l3 l4 l5 : Option PV} {st : List PV} {M : Mem} {Q : Option PV → Mem → Prop} {x y : Int32} : WP d 160 132 [l0, l1, l2, l3, l4, l5] (vi y :: vi x :: st) M Q = WP d 160 133 [l0, l1, l2, l3, l4, l5] (vi (x * y) :: st) M Q := w1 mC_160 d160_132 rfl rfl
theorem d160_133 : decode cX12_mend 133 = .ok (.iconst 2, 1) := by decide +kernel
theorem k160_133 {d : Nat} {l0 l1 l2 l3 l4 l5 : Option PV} {st : List PV} {M : Mem} {Q : Option PV → Mem → Prop} : WP d 160 133 [l0, l1, l2, l3, l4, l5] (st) M Q = WP d 160 134 [l0, l1, l2, l3, l4, l5] (vi 2 :: st) M Q := w_iconst mC_160 d160_133 (by decide)
theorem d160_134 : decode cX12_mend 134 = .ok (.iadd, 1) := by decide +kernel
theorem k160_134 {d : Nat} {l0 l1 l2 l3 l4 l5 : Option PV} {st : List PV} {M : Mem} {Q : Option PV → Mem → Prop} {x y : Int32} : WP d 160 134 [l0, l1, l2, l3, l4, l5] (vi y :: vi x :: st) M Q = WP d 160 135 [l0, l1, l2, l3, l4, l5] (vi (x + y) :: st) M Q := w1 mC_160 d160_134 rfl rfl
theorem d160_135 : decode cX12_mend 135 = .ok (.iload 4, 2) := by decide +kernel
theorem k160_135 {d : Nat} {x : Int32} {l0 l1 l2 l3 l5 : Option PV} {st : List PV} {M : Mem} {Q : Option PV → Mem → Prop} : WP d 160 135 [l0, l1, l2, l3, some (vi x), l5] (st) M Q = WP d 160 137 [l0, l1, l2, l3, some (vi x), l5] (vi x :: st) M Q := w1 mC_160 d160_135 rfl rfl
theorem d160_137 : decode cX12_mend 137 = .ok (.iastore, 1) := by decide +kernel
theorem k160_137 {d : Nat} {l0 l1 l2 l3 l4 l5 : Option PV} {st : List PV} {M : Mem} {Q : Option PV → Mem → Prop} {r : Nat} {j x : Int32} (hk : mK M r = 13) (hj : inb j (mN M r)) (h1 : r ≠ 1) : WP d 160 137 [l0, l1, l2, l3, l4, l5] (vi x :: vi j :: vr r :: st) M Q = WP d 160 138 [l0, l1, l2, l3, l4, l5] (st) (sI M r (ix j) x) Q := w_iast mC_160 d160_137 hk hj h1
theorem d160_138 : decode cX12_mend 138 = .ok (.aload_n 0, 1) := by decide +kernel
theorem k160_138 {d x : Nat} {l1 l2 l3 l4 l5 : Option PV} {st : List PV} {M : Mem} {Q : Option PV → Mem → Prop} : WP d 160 138 [some (vr x), l1, l2, l3, l4, l5] (st) M Q = WP d 160 139 [some (vr x), l1, l2, l3, l4, l5] (vr x :: st) M Q := w1 mC_160 d160_138 rfl rfl
theorem d160_139 : decode cX12_mend 139 = .ok (.getfield 60, 3) := by decide +kernel
theorem k160_139 {d : Nat} {l0 l1 l2 l3 l4 l5 : Option PV} {st : List PV} {M : Mem} {Q : Option PV → Mem → Prop} {r : Nat} (hk : mK M r = 12) : WP d 160 139 [l0, l1, l2, l3, l4, l5] (vr r :: st) M Q = WP d 160 142 [l0, l1, l2, l3, l4, l5] (vr (mR M r 30) :: st) M Q := w_getr mC_160 d160_139 fE_12_60 rfl (by rw [hk]; rfl)
theorem d160_142 : decode cX12_mend 142 = .ok (.iconst 4, 1) := by decide +kernel
theorem k160_142 {d : Nat} {l0 l1 l2 l3 l4 l5 : Option PV} {st : List PV} {M : Mem} {Q : Option PV → Mem → Prop} : WP d 160 142 [l0, l1, l2, l3, l4, l5] (st) M Q = WP d 160 143 [l0, l1, l2, l3, l4, l5] (vi 4 :: st) M Q := w_iconst mC_160 d160_142 (by decide)
theorem d160_143 : decode cX12_mend 143 = .ok (.aload_n 0, 1) := by decide +kernel
theorem k160_143 {d x : Nat} {l1 l2 l3 l4 l5 : Option PV} {st : List PV} {M : Mem} {Q : Option PV → Mem → Prop} : WP d 160 143 [some (vr x), l1, l2, l3, l4, l5] (st) M Q = WP d 160 144 [some (vr x), l1, l2, l3, l4, l5] (vr x :: st) M Q := w1 mC_160 d160_143 rfl rfl
theorem d160_144 : decode cX12_mend 144 = .ok (.getfield 152, 3) := by decide +kernel
theorem k160_144 {d : Nat} {l0 l1 l2 l3 l4 l5 : Option PV} {st : List PV} {M : Mem} {Q : Option PV → Mem → Prop} {r : Nat} (hk : mK M r = 12) : WP d 160 144 [l0, l1, l2, l3, l4, l5] (vr r :: st) M Q = WP d 160 147 [l0, l1, l2, l3, l4, l5] (vi (mI M r 29) :: st) M Q := w_get mC_160 d160_144 fE_12_152 rfl (by rw [hk]; rfl)
theorem d160_147 : decode cX12_mend 147 = .ok (.imul, 1) := by decide +kernel
theorem k160_147 {d : Nat} {l0 l1 l2 l3 l4 l5 : Option PV} {st : List PV} {M : Mem} {Q : Option PV → Mem → Prop} {x y : Int32} : WP d 160 147 [l0, l1, l2, l3, l4, l5] (vi y :: vi x :: st) M Q = WP d 160 148 [l0, l1, l2, l3, l4, l5] (vi (x * y) :: st) M Q := w1 mC_160 d160_147 rfl rfl
theorem d160_148 : decode cX12_mend 148 = .ok (.iconst 3, 1) := by decide +kernel
theorem k160_148 {d : Nat} {l0 l1 l2 l3 l4 l5 : Option PV} {st : List PV} {M : Mem} {Q : Option PV → Mem → Prop} : WP d 160 148 [l0, l1, l2, l3, l4, l5] (st) M Q = WP d 160 149 [l0, l1, l2, l3, l4, l5] (vi 3 :: st) M Q := w_iconst mC_160 d160_148 (by decide)
theorem d160_149 : decode cX12_mend 149 = .ok (.iadd, 1) := by decide +kernel
theorem k160_149 {d : Nat} {l0 l1 l2 l3 l4 l5 : Option PV} {st : List PV} {M : Mem} {Q : Option PV → Mem → Prop} {x y : Int32} : WP d 160 149 [l0, l1, l2, l3, l4, l5] (vi y :: vi x :: st) M Q = WP d 160 150 [l0, l1, l2, l3, l4, l5] (vi (x + y) :: st) M Q := w1 mC_160 d160_149 rfl rfl
theorem d160_150 : decode cX12_mend 150 = .ok (.iload_n 3, 1) := by decide +kernel
theorem k160_150 {d : Nat} {x : Int32} {l0 l1 l2 l4 l5 : Option PV} {st : List PV} {M : Mem} {Q : Option PV → Mem → Prop} : WP d 160 150 [l0, l1, l2, some (vi x), l4, l5] (st) M Q = WP d 160 151 [l0, l1, l2, some (vi x), l4, l5] (vi x :: st) M Q := w1 mC_160 d160_150 rfl rfl
theorem d160_151 : decode cX12_mend 151 = .ok (.iastore, 1) := by decide +kernel
theorem k160_151 {d : Nat} {l0 l1 l2 l3 l4 l5 : Option PV} {st : List PV} {M : Mem} {Q : Option PV → Mem → Prop} {r : Nat} {j x : Int32} (hk : mK M r = 13) (hj : inb j (mN M r)) (h1 : r ≠ 1) : WP d 160 151 [l0, l1, l2, l3, l4, l5] (vi x :: vi j :: vr r :: st) M Q = WP d 160 152 [l0, l1, l2, l3, l4, l5] (st) (sI M r (ix j) x) Q := w_iast mC_160 d160_151 hk hj h1
theorem d160_152 : decode cX12_mend 152 = .ok (.aload_n 0, 1) := by decide +kernel
theorem k160_152 {d x : Nat} {l1 l2 l3 l4 l5 : Option PV} {st : List PV} {M : Mem} {Q : Option PV → Mem → Prop} : WP d 160 152 [some (vr x), l1, l2, l3, l4, l5] (st) M Q = WP d 160 153 [some (vr x), l1, l2, l3, l4, l5] (vr x :: st) M Q := w1 mC_160 d160_152 rfl rfl
theorem d160_153 : decode cX12_mend 153 = .ok (.dup, 1) := by decide +kernel
theorem k160_153 {d : Nat} {l0 l1 l2 l3 l4 l5 : Option PV} {st : List PV} {M : Mem} {Q : Option PV → Mem → Prop} {x : Nat} : WP d 160 153 [l0, l1, l2, l3, l4, l5] (vr x :: st) M Q = WP d 160 154 [l0, l1, l2, l3, l4, l5] (vr x :: vr x :: st) M Q := w1 mC_160 d160_153 rfl rfl
theorem k160_153i {d : Nat} {l0 l1 l2 l3 l4 l5 : Option PV} {st : List PV} {M : Mem} {Q : Option PV → Mem → Prop} {x : Int32} : WP d 160 153 [l0, l1, l2, l3, l4, l5] (vi x :: st) M Q = WP d 160 154 [l0, l1, l2, l3, l4, l5] (vi x :: vi x :: st) M Q := w1 mC_160 d160_153 rfl rfl
theorem d160_154 : decode cX12_mend 154 = .ok (.getfield 152, 3) := by decide +kernel
theorem k160_154 {d : Nat} {l0 l1 l2 l3 l4 l5 : Option PV} {st : List PV} {M : Mem} {Q : Option PV → Mem → Prop} {r : Nat} (hk : mK M r = 12) : WP d 160 154 [l0, l1, l2, l3, l4, l5] (vr r :: st) M Q = WP d 160 157 [l0, l1, l2, l3, l4, l5] (vi (mI M r 29) :: st) M Q := w_get mC_160 d160_154 fE_12_152 rfl (by rw [hk]; rfl)
theorem d160_157 : decode cX12_mend 157 = .ok (.iconst 1, 1) := by decide +kernel
theorem k160_157 {d : Nat} {l0 l1 l2 l3 l4 l5 : Option PV} {st : List PV} {M : Mem} {Q : Option PV → Mem → Prop} : WP d 160 157 [l0, l1, l2, l3, l4, l5] (st) M Q = WP d 160 158 [l0, l1, l2, l3, l4, l5] (vi 1 :: st) M Q := w_iconst mC_160 d160_157 (by decide)
theorem d160_158 : decode cX12_mend 158 = .ok (.iadd, 1) := by decide +kernel
theorem k160_158 {d : Nat} {l0 l1 l2 l3 l4 l5 : Option PV} {st : List PV} {M : Mem} {Q : Option PV → Mem → Prop} {x y : Int32} : WP d 160 158 [l0, l1, l2, l3, l4, l5] (vi y :: vi x :: st) M Q = WP d 160 159 [l0, l1, l2, l3, l4, l5] (vi (x + y) :: st) M Q := w1 mC_160 d160_158 rfl rfl
theorem d160_159 : decode cX12_mend 159 = .ok (.putfield 152, 3) := by decide +kernel
theorem k160_159 {d : Nat} {l0 l1 l2 l3 l4 l5 : Option PV} {st : List PV} {M : Mem} {Q : Option PV → Mem → Prop} {r : Nat} {x : Int32} (hk : mK M r = 12) : WP d 160 159 [l0, l1, l2, l3, l4, l5] (vi x :: vr r :: st) M Q = WP d 160 162 [l0, l1, l2, l3, l4, l5] (st) (sI M r 29 x) Q := w_put mC_160 d160_159 fE_12_152 (by decide +kernel) (by rw [hk]; rfl)
theorem d160_162 : decode cX12_mend 162 = .ok (.aload_n 0, 1) := by decide +kernel
theorem k160_162 {d x : Nat} {l1 l2 l3 l4 l5 : Option PV} {st : List PV} {M : Mem} {Q : Option PV → Mem → Prop} : WP d 160 162 [some (vr x), l1, l2, l3, l4, l5] (st) M Q = WP d 160 163 [some (vr x), l1, l2, l3, l4, l5] (vr x :: st) M Q := w1 mC_160 d160_162 rfl rfl
theorem d160_163 : decode cX12_mend 163 = .ok (.aload_n 0, 1) := by decide +kernel
theorem k160_163 {d x : Nat} {l1 l2 l3 l4 l5 : Option PV} {st : List PV} {M : Mem} {Q : Option PV → Mem → Prop} : WP d 160 163 [some (vr x), l1, l2, l3, l4, l5] (st) M Q = WP d 160 164 [some (vr x), l1, l2, l3, l4, l5] (vr x :: st) M Q := w1 mC_160 d160_163 rfl rfl
theorem d160_164 : decode cX12_mend 164 = .ok (.getfield 152, 3) := by decide +kernel
theorem k160_164 {d : Nat} {l0 l1 l2 l3 l4 l5 : Option PV} {st : List PV} {M : Mem} {Q : Option PV → Mem → Prop} {r : Nat} (hk : mK M r = 12) : WP d 160 164 [l0, l1, l2, l3, l4, l5] (vr r :: st) M Q = WP d 160 167 [l0, l1, l2, l3, l4, l5] (vi (mI M r 29) :: st) M Q := w_get mC_160 d160_164 fE_12_152 rfl (by rw [hk]; rfl)
theorem d160_167 : decode cX12_mend 167 = .ok (.putfield 155, 3) := by decide +kernel
theorem k160_167 {d : Nat} {l0 l1 l2 l3 l4 l5 : Option PV} {st : List PV} {M : Mem} {Q : Option PV → Mem → Prop} {r : Nat} {x : Int32} (hk : mK M r = 12) : WP d 160 167 [l0, l1, l2, l3, l4, l5] (vi x :: vr r :: st) M Q = WP d 160 170 [l0, l1, l2, l3, l4, l5] (st) (sI M r 28 x) Q := w_put mC_160 d160_167 fE_12_155 (by decide +kernel) (by rw [hk]; rfl)
theorem d160_170 : decode cX12_mend 170 = .ok (.iload 4, 2) := by decide +kernel
theorem k160_170 {d : Nat} {x : Int32} {l0 l1 l2 l3 l5 : Option PV} {st : List PV} {M : Mem} {Q : Option PV → Mem → Prop} : WP d 160 170 [l0, l1, l2, l3, some (vi x), l5] (st) M Q = WP d 160 172 [l0, l1, l2, l3, some (vi x), l5] (vi x :: st) M Q := w1 mC_160 d160_170 rfl rfl
theorem d160_172 : decode cX12_mend 172 = .ok (.ireturn, 1) := by decide +kernel
theorem k160_172 {d : Nat} {l0 l1 l2 l3 l4 l5 : Option PV} {M : Mem} {Q : Option PV → Mem → Prop} {x : Int32} : WP d 160 172 [l0, l1, l2, l3, l4, l5] ([vi x]) M Q = Q (some (vi x)) M := w_iret mC_160 d160_172 rfl
theorem d161_0 : decode cX12_of 0 = .ok (.aload_n 0, 1) := by decide +kernel
theorem k161_0 {d x : Nat} {l1 l2 : Option PV} {st : List PV} {M : Mem} {Q : Option PV → Mem → Prop} : WP d 161 0 [some (vr x), l1, l2] (st) M Q = WP d 161 1 [some (vr x), l1, l2] (vr x :: st) M Q := w1 mC_161 d161_0 rfl rfl
theorem d161_1 : decode cX12_of 1 = .ok (.iload_n 1, 1) := by decide +kernel
theorem k161_1 {d : Nat} {x : Int32} {l0 l2 : Option PV} {st : List PV} {M : Mem} {Q : Option PV → Mem → Prop} : WP d 161 1 [l0, some (vi x), l2] (st) M Q = WP d 161 2 [l0, some (vi x), l2] (vi x :: st) M Q := w1 mC_161 d161_1 rfl rfl
theorem d161_2 : decode cX12_of 2 = .ok (.iload_n 2, 1) := by decide +kernel
theorem k161_2 {d : Nat} {x : Int32} {l0 l1 : Option PV} {st : List PV} {M : Mem} {Q : Option PV → Mem → Prop} : WP d 161 2 [l0, l1, some (vi x)] (st) M Q = WP d 161 3 [l0, l1, some (vi x)] (vi x :: st) M Q := w1 mC_161 d161_2 rfl rfl
theorem d161_3 : decode cX12_of 3 = .ok (.invokevirtual 137, 3) := by decide +kernel
theorem k161_3 {d : Nat} {l0 l1 l2 : Option PV} {st : List PV} {M : Mem} {Q : Option PV → Mem → Prop} {a0 a1 : Int32} {r : Nat} (hl : szL st ≤ 8) (hk : mK M r = 12) : WP (d + 1) 161 3 [l0, l1, l2] (vi a1 :: vi a0 :: vr r :: st) M Q = WP d 156 0 [some (vr r), some (vi a0), some (vi a1)] [] M (fun v M' => WP (d + 1) 161 6 [l0, l1, l2] (psh v st) M' Q) := w_callV mC_161 d161_3 (ci := 12) rfl rfl rfl (Nat.le_of_ble_eq_true rfl) (by decide) rfl hl hk
theorem d161_6 : decode cX12_of 6 = .ok (.ifCond .eq 12, 3) := by decide +kernel
theorem k161_6 {d : Nat} {l0 l1 l2 : Option PV} {st : List PV} {M : Mem} {Q : Option PV → Mem → Prop} {x : Int32} : WP d 161 6 [l0, l1, l2] (vi x :: st) M Q = (if x = 0 then WP d 161 18 [l0, l1, l2] (st) M Q else WP d 161 9 [l0, l1, l2] (st) M Q) := w_if_eq mC_161 d161_6 (by decide)
theorem d161_9 : decode cX12_of 9 = .ok (.aload_n 0, 1) := by decide +kernel
theorem k161_9 {d x : Nat} {l1 l2 : Option PV} {st : List PV} {M : Mem} {Q : Option PV → Mem → Prop} : WP d 161 9 [some (vr x), l1, l2] (st) M Q = WP d 161 10 [some (vr x), l1, l2] (vr x :: st) M Q := w1 mC_161 d161_9 rfl rfl
theorem d161_10 : decode cX12_of 10 = .ok (.iload_n 1, 1) := by decide +kernel
theorem k161_10 {d : Nat} {x : Int32} {l0 l2 : Option PV} {st : List PV} {M : Mem} {Q : Option PV → Mem → Prop} : WP d 161 10 [l0, some (vi x), l2] (st) M Q = WP d 161 11 [l0, some (vi x), l2] (vi x :: st) M Q := w1 mC_161 d161_10 rfl rfl
theorem d161_11 : decode cX12_of 11 = .ok (.iload_n 2, 1) := by decide +kernel
theorem k161_11 {d : Nat} {x : Int32} {l0 l1 : Option PV} {st : List PV} {M : Mem} {Q : Option PV → Mem → Prop} : WP d 161 11 [l0, l1, some (vi x)] (st) M Q = WP d 161 12 [l0, l1, some (vi x)] (vi x :: st) M Q := w1 mC_161 d161_11 rfl rfl
theorem d161_12 : decode cX12_of 12 = .ok (.invokevirtual 145, 3) := by decide +kernel
theorem k161_12 {d : Nat} {l0 l1 l2 : Option PV} {st : List PV} {M : Mem} {Q : Option PV → Mem → Prop} {a0 a1 : Int32} {r : Nat} (hl : szL st ≤ 8) (hk : mK M r = 12) : WP (d + 1) 161 12 [l0, l1, l2] (vi a1 :: vi a0 :: vr r :: st) M Q = WP d 158 0 [some (vr r), some (vi a0), some (vi a1)] [] M (fun v M' => WP (d + 1) 161 15 [l0, l1, l2] (psh v st) M' Q) := w_callV mC_161 d161_12 (ci := 12) rfl rfl rfl (Nat.le_of_ble_eq_true rfl) (by decide) rfl hl hk
theorem d161_15 : decode cX12_of 15 = .ok (.goto 5, 3) := by decide +kernel
theorem k161_15 {d : Nat} {l0 l1 l2 : Option PV} {st : List PV} {M : Mem} {Q : Option PV → Mem → Prop} : WP d 161 15 [l0, l1, l2] (st) M Q = WP d 161 20 [l0, l1, l2] (st) M Q := w_goto mC_161 d161_15 (by decide)
theorem d161_18 : decode cX12_of 18 = .ok (.ldc 144, 2) := by decide +kernel
theorem k161_18 {d : Nat} {l0 l1 l2 : Option PV} {st : List PV} {M : Mem} {Q : Option PV → Mem → Prop} : WP d 161 18 [l0, l1, l2] (st) M Q = WP d 161 20 [l0, l1, l2] (vi (-2000000000) :: st) M Q := w_ldc mC_161 d161_18 rfl
theorem d161_20 : decode cX12_of 20 = .ok (.ireturn, 1) := by decide +kernel
theorem k161_20 {d : Nat} {l0 l1 l2 : Option PV} {M : Mem} {Q : Option PV → Mem → Prop} {x : Int32} : WP d 161 20 [l0, l1, l2] ([vi x]) M Q = Q (some (vi x)) M := w_iret mC_161 d161_20 rfl
theorem d162_0 : decode cX12_undo 0 = .ok (.aload_n 0, 1) := by decide +kernel
theorem k162_0 {d x : Nat} {st : List PV} {M : Mem} {Q : Option PV → Mem → Prop} : WP d 162 0 [some (vr x)] (st) M Q = WP d 162 1 [some (vr x)] (vr x :: st) M Q := w1 mC_162 d162_0 rfl rfl
theorem d162_1 : decode cX12_undo 1 = .ok (.getfield 152, 3) := by decide +kernel
theorem k162_1 {d : Nat} {l0 : Option PV} {st : List PV} {M : Mem} {Q : Option PV → Mem → Prop} {r : Nat} (hk : mK M r = 12) : WP d 162 1 [l0] (vr r :: st) M Q = WP d 162 4 [l0] (vi (mI M r 29) :: st) M Q := w_get mC_162 d162_1 fE_12_152 rfl (by rw [hk]; rfl)
theorem d162_4 : decode cX12_undo 4 = .ok (.ifCond .ne 6, 3) := by decide +kernel
theorem k162_4 {d : Nat} {l0 : Option PV} {st : List PV} {M : Mem} {Q : Option PV → Mem → Prop} {x : Int32} : WP d 162 4 [l0] (vi x :: st) M Q = (if x = 0 then WP d 162 7 [l0] (st) M Q else WP d 162 10 [l0] (st) M Q) := w_if_ne mC_162 d162_4 (by decide)
theorem d162_7 : decode cX12_undo 7 = .ok (.bipush (-5), 2) := by decide +kernel
theorem k162_7 {d : Nat} {l0 : Option PV} {st : List PV} {M : Mem} {Q : Option PV → Mem → Prop} : WP d 162 7 [l0] (st) M Q = WP d 162 9 [l0] (vi (-5) :: st) M Q := w_bipush mC_162 d162_7 (by decide)
theorem d162_9 : decode cX12_undo 9 = .ok (.ireturn, 1) := by decide +kernel
theorem k162_9 {d : Nat} {l0 : Option PV} {M : Mem} {Q : Option PV → Mem → Prop} {x : Int32} : WP d 162 9 [l0] ([vi x]) M Q = Q (some (vi x)) M := w_iret mC_162 d162_9 rfl
theorem d162_10 : decode cX12_undo 10 = .ok (.aload_n 0, 1) := by decide +kernel
theorem k162_10 {d x : Nat} {st : List PV} {M : Mem} {Q : Option PV → Mem → Prop} : WP d 162 10 [some (vr x)] (st) M Q = WP d 162 11 [some (vr x)] (vr x :: st) M Q := w1 mC_162 d162_10 rfl rfl
theorem d162_11 : decode cX12_undo 11 = .ok (.dup, 1) := by decide +kernel
theorem k162_11 {d : Nat} {l0 : Option PV} {st : List PV} {M : Mem} {Q : Option PV → Mem → Prop} {x : Nat} : WP d 162 11 [l0] (vr x :: st) M Q = WP d 162 12 [l0] (vr x :: vr x :: st) M Q := w1 mC_162 d162_11 rfl rfl
theorem k162_11i {d : Nat} {l0 : Option PV} {st : List PV} {M : Mem} {Q : Option PV → Mem → Prop} {x : Int32} : WP d 162 11 [l0] (vi x :: st) M Q = WP d 162 12 [l0] (vi x :: vi x :: st) M Q := w1 mC_162 d162_11 rfl rfl
theorem d162_12 : decode cX12_undo 12 = .ok (.getfield 152, 3) := by decide +kernel
theorem k162_12 {d : Nat} {l0 : Option PV} {st : List PV} {M : Mem} {Q : Option PV → Mem → Prop} {r : Nat} (hk : mK M r = 12) : WP d 162 12 [l0] (vr r :: st) M Q = WP d 162 15 [l0] (vi (mI M r 29) :: st) M Q := w_get mC_162 d162_12 fE_12_152 rfl (by rw [hk]; rfl)
theorem d162_15 : decode cX12_undo 15 = .ok (.iconst 1, 1) := by decide +kernel
theorem k162_15 {d : Nat} {l0 : Option PV} {st : List PV} {M : Mem} {Q : Option PV → Mem → Prop} : WP d 162 15 [l0] (st) M Q = WP d 162 16 [l0] (vi 1 :: st) M Q := w_iconst mC_162 d162_15 (by decide)
theorem d162_16 : decode cX12_undo 16 = .ok (.isub, 1) := by decide +kernel
theorem k162_16 {d : Nat} {l0 : Option PV} {st : List PV} {M : Mem} {Q : Option PV → Mem → Prop} {x y : Int32} : WP d 162 16 [l0] (vi y :: vi x :: st) M Q = WP d 162 17 [l0] (vi (x - y) :: st) M Q := w1 mC_162 d162_16 rfl rfl
theorem d162_17 : decode cX12_undo 17 = .ok (.putfield 152, 3) := by decide +kernel
theorem k162_17 {d : Nat} {l0 : Option PV} {st : List PV} {M : Mem} {Q : Option PV → Mem → Prop} {r : Nat} {x : Int32} (hk : mK M r = 12) : WP d 162 17 [l0] (vi x :: vr r :: st) M Q = WP d 162 20 [l0] (st) (sI M r 29 x) Q := w_put mC_162 d162_17 fE_12_152 (by decide +kernel) (by rw [hk]; rfl)
theorem d162_20 : decode cX12_undo 20 = .ok (.aload_n 0, 1) := by decide +kernel
theorem k162_20 {d x : Nat} {st : List PV} {M : Mem} {Q : Option PV → Mem → Prop} : WP d 162 20 [some (vr x)] (st) M Q = WP d 162 21 [some (vr x)] (vr x :: st) M Q := w1 mC_162 d162_20 rfl rfl
theorem d162_21 : decode cX12_undo 21 = .ok (.aload_n 0, 1) := by decide +kernel
theorem k162_21 {d x : Nat} {st : List PV} {M : Mem} {Q : Option PV → Mem → Prop} : WP d 162 21 [some (vr x)] (st) M Q = WP d 162 22 [some (vr x)] (vr x :: st) M Q := w1 mC_162 d162_21 rfl rfl
theorem d162_22 : decode cX12_undo 22 = .ok (.getfield 60, 3) := by decide +kernel
theorem k162_22 {d : Nat} {l0 : Option PV} {st : List PV} {M : Mem} {Q : Option PV → Mem → Prop} {r : Nat} (hk : mK M r = 12) : WP d 162 22 [l0] (vr r :: st) M Q = WP d 162 25 [l0] (vr (mR M r 30) :: st) M Q := w_getr mC_162 d162_22 fE_12_60 rfl (by rw [hk]; rfl)
theorem d162_25 : decode cX12_undo 25 = .ok (.iconst 4, 1) := by decide +kernel
theorem k162_25 {d : Nat} {l0 : Option PV} {st : List PV} {M : Mem} {Q : Option PV → Mem → Prop} : WP d 162 25 [l0] (st) M Q = WP d 162 26 [l0] (vi 4 :: st) M Q := w_iconst mC_162 d162_25 (by decide)
theorem d162_26 : decode cX12_undo 26 = .ok (.aload_n 0, 1) := by decide +kernel
theorem k162_26 {d x : Nat} {st : List PV} {M : Mem} {Q : Option PV → Mem → Prop} : WP d 162 26 [some (vr x)] (st) M Q = WP d 162 27 [some (vr x)] (vr x :: st) M Q := w1 mC_162 d162_26 rfl rfl
theorem d162_27 : decode cX12_undo 27 = .ok (.getfield 152, 3) := by decide +kernel
theorem k162_27 {d : Nat} {l0 : Option PV} {st : List PV} {M : Mem} {Q : Option PV → Mem → Prop} {r : Nat} (hk : mK M r = 12) : WP d 162 27 [l0] (vr r :: st) M Q = WP d 162 30 [l0] (vi (mI M r 29) :: st) M Q := w_get mC_162 d162_27 fE_12_152 rfl (by rw [hk]; rfl)
theorem d162_30 : decode cX12_undo 30 = .ok (.imul, 1) := by decide +kernel
theorem k162_30 {d : Nat} {l0 : Option PV} {st : List PV} {M : Mem} {Q : Option PV → Mem → Prop} {x y : Int32} : WP d 162 30 [l0] (vi y :: vi x :: st) M Q = WP d 162 31 [l0] (vi (x * y) :: st) M Q := w1 mC_162 d162_30 rfl rfl
theorem d162_31 : decode cX12_undo 31 = .ok (.iaload, 1) := by decide +kernel
theorem k162_31 {d : Nat} {l0 : Option PV} {st : List PV} {M : Mem} {Q : Option PV → Mem → Prop} {r : Nat} {j : Int32} (hk : mK M r = 13) (hj : inb j (mN M r)) (h1 : r ≠ 1) : WP d 162 31 [l0] (vi j :: vr r :: st) M Q = WP d 162 32 [l0] (vi (mI M r (ix j)) :: st) M Q := w_iald mC_162 d162_31 (by decide) hk hj h1
theorem d162_32 : decode cX12_undo 32 = .ok (.aload_n 0, 1) := by decide +kernel
theorem k162_32 {d x : Nat} {st : List PV} {M : Mem} {Q : Option PV → Mem → Prop} : WP d 162 32 [some (vr x)] (st) M Q = WP d 162 33 [some (vr x)] (vr x :: st) M Q := w1 mC_162 d162_32 rfl rfl
theorem d162_33 : decode cX12_undo 33 = .ok (.getfield 60, 3) := by decide +kernel
theorem k162_33 {d : Nat} {l0 : Option PV} {st : List PV} {M : Mem} {Q : Option PV → Mem → Prop} {r : Nat} (hk : mK M r = 12) : WP d 162 33 [l0] (vr r :: st) M Q = WP d 162 36 [l0] (vr (mR M r 30) :: st) M Q := w_getr mC_162 d162_33 fE_12_60 rfl (by rw [hk]; rfl)
theorem d162_36 : decode cX12_undo 36 = .ok (.iconst 4, 1) := by decide +kernel
theorem k162_36 {d : Nat} {l0 : Option PV} {st : List PV} {M : Mem} {Q : Option PV → Mem → Prop} : WP d 162 36 [l0] (st) M Q = WP d 162 37 [l0] (vi 4 :: st) M Q := w_iconst mC_162 d162_36 (by decide)
theorem d162_37 : decode cX12_undo 37 = .ok (.aload_n 0, 1) := by decide +kernel
theorem k162_37 {d x : Nat} {st : List PV} {M : Mem} {Q : Option PV → Mem → Prop} : WP d 162 37 [some (vr x)] (st) M Q = WP d 162 38 [some (vr x)] (vr x :: st) M Q := w1 mC_162 d162_37 rfl rfl
theorem d162_38 : decode cX12_undo 38 = .ok (.getfield 152, 3) := by decide +kernel
theorem k162_38 {d : Nat} {l0 : Option PV} {st : List PV} {M : Mem} {Q : Option PV → Mem → Prop} {r : Nat} (hk : mK M r = 12) : WP d 162 38 [l0] (vr r :: st) M Q = WP d 162 41 [l0] (vi (mI M r 29) :: st) M Q := w_get mC_162 d162_38 fE_12_152 rfl (by rw [hk]; rfl)
theorem d162_41 : decode cX12_undo 41 = .ok (.imul, 1) := by decide +kernel
theorem k162_41 {d : Nat} {l0 : Option PV} {st : List PV} {M : Mem} {Q : Option PV → Mem → Prop} {x y : Int32} : WP d 162 41 [l0] (vi y :: vi x :: st) M Q = WP d 162 42 [l0] (vi (x * y) :: st) M Q := w1 mC_162 d162_41 rfl rfl
theorem d162_42 : decode cX12_undo 42 = .ok (.iconst 1, 1) := by decide +kernel
theorem k162_42 {d : Nat} {l0 : Option PV} {st : List PV} {M : Mem} {Q : Option PV → Mem → Prop} : WP d 162 42 [l0] (st) M Q = WP d 162 43 [l0] (vi 1 :: st) M Q := w_iconst mC_162 d162_42 (by decide)
theorem d162_43 : decode cX12_undo 43 = .ok (.iadd, 1) := by decide +kernel
theorem k162_43 {d : Nat} {l0 : Option PV} {st : List PV} {M : Mem} {Q : Option PV → Mem → Prop} {x y : Int32} : WP d 162 43 [l0] (vi y :: vi x :: st) M Q = WP d 162 44 [l0] (vi (x + y) :: st) M Q := w1 mC_162 d162_43 rfl rfl
theorem d162_44 : decode cX12_undo 44 = .ok (.iaload, 1) := by decide +kernel
theorem k162_44 {d : Nat} {l0 : Option PV} {st : List PV} {M : Mem} {Q : Option PV → Mem → Prop} {r : Nat} {j : Int32} (hk : mK M r = 13) (hj : inb j (mN M r)) (h1 : r ≠ 1) : WP d 162 44 [l0] (vi j :: vr r :: st) M Q = WP d 162 45 [l0] (vi (mI M r (ix j)) :: st) M Q := w_iald mC_162 d162_44 (by decide) hk hj h1
theorem d162_45 : decode cX12_undo 45 = .ok (.aload_n 0, 1) := by decide +kernel
theorem k162_45 {d x : Nat} {st : List PV} {M : Mem} {Q : Option PV → Mem → Prop} : WP d 162 45 [some (vr x)] (st) M Q = WP d 162 46 [some (vr x)] (vr x :: st) M Q := w1 mC_162 d162_45 rfl rfl
theorem d162_46 : decode cX12_undo 46 = .ok (.getfield 60, 3) := by decide +kernel
theorem k162_46 {d : Nat} {l0 : Option PV} {st : List PV} {M : Mem} {Q : Option PV → Mem → Prop} {r : Nat} (hk : mK M r = 12) : WP d 162 46 [l0] (vr r :: st) M Q = WP d 162 49 [l0] (vr (mR M r 30) :: st) M Q := w_getr mC_162 d162_46 fE_12_60 rfl (by rw [hk]; rfl)
theorem d162_49 : decode cX12_undo 49 = .ok (.iconst 4, 1) := by decide +kernel
theorem k162_49 {d : Nat} {l0 : Option PV} {st : List PV} {M : Mem} {Q : Option PV → Mem → Prop} : WP d 162 49 [l0] (st) M Q = WP d 162 50 [l0] (vi 4 :: st) M Q := w_iconst mC_162 d162_49 (by decide)
theorem d162_50 : decode cX12_undo 50 = .ok (.aload_n 0, 1) := by decide +kernel
theorem k162_50 {d x : Nat} {st : List PV} {M : Mem} {Q : Option PV → Mem → Prop} : WP d 162 50 [some (vr x)] (st) M Q = WP d 162 51 [some (vr x)] (vr x :: st) M Q := w1 mC_162 d162_50 rfl rfl
theorem d162_51 : decode cX12_undo 51 = .ok (.getfield 152, 3) := by decide +kernel
theorem k162_51 {d : Nat} {l0 : Option PV} {st : List PV} {M : Mem} {Q : Option PV → Mem → Prop} {r : Nat} (hk : mK M r = 12) : WP d 162 51 [l0] (vr r :: st) M Q = WP d 162 54 [l0] (vi (mI M r 29) :: st) M Q := w_get mC_162 d162_51 fE_12_152 rfl (by rw [hk]; rfl)
theorem d162_54 : decode cX12_undo 54 = .ok (.imul, 1) := by decide +kernel
theorem k162_54 {d : Nat} {l0 : Option PV} {st : List PV} {M : Mem} {Q : Option PV → Mem → Prop} {x y : Int32} : WP d 162 54 [l0] (vi y :: vi x :: st) M Q = WP d 162 55 [l0] (vi (x * y) :: st) M Q := w1 mC_162 d162_54 rfl rfl
theorem d162_55 : decode cX12_undo 55 = .ok (.iconst 2, 1) := by decide +kernel
theorem k162_55 {d : Nat} {l0 : Option PV} {st : List PV} {M : Mem} {Q : Option PV → Mem → Prop} : WP d 162 55 [l0] (st) M Q = WP d 162 56 [l0] (vi 2 :: st) M Q := w_iconst mC_162 d162_55 (by decide)
theorem d162_56 : decode cX12_undo 56 = .ok (.iadd, 1) := by decide +kernel
theorem k162_56 {d : Nat} {l0 : Option PV} {st : List PV} {M : Mem} {Q : Option PV → Mem → Prop} {x y : Int32} : WP d 162 56 [l0] (vi y :: vi x :: st) M Q = WP d 162 57 [l0] (vi (x + y) :: st) M Q := w1 mC_162 d162_56 rfl rfl
theorem d162_57 : decode cX12_undo 57 = .ok (.iaload, 1) := by decide +kernel
theorem k162_57 {d : Nat} {l0 : Option PV} {st : List PV} {M : Mem} {Q : Option PV → Mem → Prop} {r : Nat} {j : Int32} (hk : mK M r = 13) (hj : inb j (mN M r)) (h1 : r ≠ 1) : WP d 162 57 [l0] (vi j :: vr r :: st) M Q = WP d 162 58 [l0] (vi (mI M r (ix j)) :: st) M Q := w_iald mC_162 d162_57 (by decide) hk hj h1
theorem d162_58 : decode cX12_undo 58 = .ok (.invokevirtual 148, 3) := by decide +kernel
theorem k162_58 {d : Nat} {l0 : Option PV} {st : List PV} {M : Mem} {Q : Option PV → Mem → Prop} {a0 a1 a2 : Int32} {r : Nat} (hl : szL st ≤ 8) (hk : mK M r = 12) : WP (d + 1) 162 58 [l0] (vi a2 :: vi a1 :: vi a0 :: vr r :: st) M Q = WP d 159 0 [some (vr r), some (vi a0), some (vi a1), some (vi a2)] [] M (fun v M' => WP (d + 1) 162 61 [l0] (psh v st) M' Q) := w_callV mC_162 d162_58 (ci := 12) rfl rfl rfl (Nat.le_of_ble_eq_true rfl) (by decide) rfl hl hk
theorem d162_61 : decode cX12_undo 61 = .ok (.aload_n 0, 1) := by decide +kernel
theorem k162_61 {d x : Nat} {st : List PV} {M : Mem} {Q : Option PV → Mem → Prop} : WP d 162 61 [some (vr x)] (st) M Q = WP d 162 62 [some (vr x)] (vr x :: st) M Q := w1 mC_162 d162_61 rfl rfl
theorem d162_62 : decode cX12_undo 62 = .ok (.getfield 152, 3) := by decide +kernel
theorem k162_62 {d : Nat} {l0 : Option PV} {st : List PV} {M : Mem} {Q : Option PV → Mem → Prop} {r : Nat} (hk : mK M r = 12) : WP d 162 62 [l0] (vr r :: st) M Q = WP d 162 65 [l0] (vi (mI M r 29) :: st) M Q := w_get mC_162 d162_62 fE_12_152 rfl (by rw [hk]; rfl)
theorem d162_65 : decode cX12_undo 65 = .ok (.ireturn, 1) := by decide +kernel
theorem k162_65 {d : Nat} {l0 : Option PV} {M : Mem} {Q : Option PV → Mem → Prop} {x : Int32} : WP d 162 65 [l0] ([vi x]) M Q = Q (some (vi x)) M := w_iret mC_162 d162_65 rfl
theorem d163_0 : decode cX12_redo 0 = .ok (.aload_n 0, 1) := by decide +kernel
theorem k163_0 {d x : Nat} {st : List PV} {M : Mem} {Q : Option PV → Mem → Prop} : WP d 163 0 [some (vr x)] (st) M Q = WP d 163 1 [some (vr x)] (vr x :: st) M Q := w1 mC_163 d163_0 rfl rfl
theorem d163_1 : decode cX12_redo 1 = .ok (.getfield 152, 3) := by decide +kernel
theorem k163_1 {d : Nat} {l0 : Option PV} {st : List PV} {M : Mem} {Q : Option PV → Mem → Prop} {r : Nat} (hk : mK M r = 12) : WP d 163 1 [l0] (vr r :: st) M Q = WP d 163 4 [l0] (vi (mI M r 29) :: st) M Q := w_get mC_163 d163_1 fE_12_152 rfl (by rw [hk]; rfl)
theorem d163_4 : decode cX12_redo 4 = .ok (.aload_n 0, 1) := by decide +kernel
theorem k163_4 {d x : Nat} {st : List PV} {M : Mem} {Q : Option PV → Mem → Prop} : WP d 163 4 [some (vr x)] (st) M Q = WP d 163 5 [some (vr x)] (vr x :: st) M Q := w1 mC_163 d163_4 rfl rfl
theorem d163_5 : decode cX12_redo 5 = .ok (.getfield 155, 3) := by decide +kernel
theorem k163_5 {d : Nat} {l0 : Option PV} {st : List PV} {M : Mem} {Q : Option PV → Mem → Prop} {r : Nat} (hk : mK M r = 12) : WP d 163 5 [l0] (vr r :: st) M Q = WP d 163 8 [l0] (vi (mI M r 28) :: st) M Q := w_get mC_163 d163_5 fE_12_155 rfl (by rw [hk]; rfl)
theorem d163_8 : decode cX12_redo 8 = .ok (.if_icmp .ne 6, 3) := by decide +kernel
theorem k163_8 {d : Nat} {l0 : Option PV} {st : List PV} {M : Mem} {Q : Option PV → Mem → Prop} {x y : Int32} : WP d 163 8 [l0] (vi y :: vi x :: st) M Q = (if x = y then WP d 163 11 [l0] (st) M Q else WP d 163 14 [l0] (st) M Q) := w_ic_ne mC_163 d163_8 (by decide)
theorem d163_11 : decode cX12_redo 11 = .ok (.bipush (-5), 2) := by decide +kernel
theorem k163_11 {d : Nat} {l0 : Option PV} {st : List PV} {M : Mem} {Q : Option PV → Mem → Prop} : WP d 163 11 [l0] (st) M Q = WP d 163 13 [l0] (vi (-5) :: st) M Q := w_bipush mC_163 d163_11 (by decide)
theorem d163_13 : decode cX12_redo 13 = .ok (.ireturn, 1) := by decide +kernel
theorem k163_13 {d : Nat} {l0 : Option PV} {M : Mem} {Q : Option PV → Mem → Prop} {x : Int32} : WP d 163 13 [l0] ([vi x]) M Q = Q (some (vi x)) M := w_iret mC_163 d163_13 rfl
theorem d163_14 : decode cX12_redo 14 = .ok (.aload_n 0, 1) := by decide +kernel
theorem k163_14 {d x : Nat} {st : List PV} {M : Mem} {Q : Option PV → Mem → Prop} : WP d 163 14 [some (vr x)] (st) M Q = WP d 163 15 [some (vr x)] (vr x :: st) M Q := w1 mC_163 d163_14 rfl rfl
theorem d163_15 : decode cX12_redo 15 = .ok (.aload_n 0, 1) := by decide +kernel
theorem k163_15 {d x : Nat} {st : List PV} {M : Mem} {Q : Option PV → Mem → Prop} : WP d 163 15 [some (vr x)] (st) M Q = WP d 163 16 [some (vr x)] (vr x :: st) M Q := w1 mC_163 d163_15 rfl rfl
theorem d163_16 : decode cX12_redo 16 = .ok (.getfield 60, 3) := by decide +kernel
theorem k163_16 {d : Nat} {l0 : Option PV} {st : List PV} {M : Mem} {Q : Option PV → Mem → Prop} {r : Nat} (hk : mK M r = 12) : WP d 163 16 [l0] (vr r :: st) M Q = WP d 163 19 [l0] (vr (mR M r 30) :: st) M Q := w_getr mC_163 d163_16 fE_12_60 rfl (by rw [hk]; rfl)
theorem d163_19 : decode cX12_redo 19 = .ok (.iconst 4, 1) := by decide +kernel
theorem k163_19 {d : Nat} {l0 : Option PV} {st : List PV} {M : Mem} {Q : Option PV → Mem → Prop} : WP d 163 19 [l0] (st) M Q = WP d 163 20 [l0] (vi 4 :: st) M Q := w_iconst mC_163 d163_19 (by decide)
theorem d163_20 : decode cX12_redo 20 = .ok (.aload_n 0, 1) := by decide +kernel
theorem k163_20 {d x : Nat} {st : List PV} {M : Mem} {Q : Option PV → Mem → Prop} : WP d 163 20 [some (vr x)] (st) M Q = WP d 163 21 [some (vr x)] (vr x :: st) M Q := w1 mC_163 d163_20 rfl rfl
theorem d163_21 : decode cX12_redo 21 = .ok (.getfield 152, 3) := by decide +kernel
theorem k163_21 {d : Nat} {l0 : Option PV} {st : List PV} {M : Mem} {Q : Option PV → Mem → Prop} {r : Nat} (hk : mK M r = 12) : WP d 163 21 [l0] (vr r :: st) M Q = WP d 163 24 [l0] (vi (mI M r 29) :: st) M Q := w_get mC_163 d163_21 fE_12_152 rfl (by rw [hk]; rfl)
theorem d163_24 : decode cX12_redo 24 = .ok (.imul, 1) := by decide +kernel
theorem k163_24 {d : Nat} {l0 : Option PV} {st : List PV} {M : Mem} {Q : Option PV → Mem → Prop} {x y : Int32} : WP d 163 24 [l0] (vi y :: vi x :: st) M Q = WP d 163 25 [l0] (vi (x * y) :: st) M Q := w1 mC_163 d163_24 rfl rfl
theorem d163_25 : decode cX12_redo 25 = .ok (.iaload, 1) := by decide +kernel
theorem k163_25 {d : Nat} {l0 : Option PV} {st : List PV} {M : Mem} {Q : Option PV → Mem → Prop} {r : Nat} {j : Int32} (hk : mK M r = 13) (hj : inb j (mN M r)) (h1 : r ≠ 1) : WP d 163 25 [l0] (vi j :: vr r :: st) M Q = WP d 163 26 [l0] (vi (mI M r (ix j)) :: st) M Q := w_iald mC_163 d163_25 (by decide) hk hj h1
theorem d163_26 : decode cX12_redo 26 = .ok (.aload_n 0, 1) := by decide +kernel
theorem k163_26 {d x : Nat} {st : List PV} {M : Mem} {Q : Option PV → Mem → Prop} : WP d 163 26 [some (vr x)] (st) M Q = WP d 163 27 [some (vr x)] (vr x :: st) M Q := w1 mC_163 d163_26 rfl rfl
theorem d163_27 : decode cX12_redo 27 = .ok (.getfield 60, 3) := by decide +kernel
theorem k163_27 {d : Nat} {l0 : Option PV} {st : List PV} {M : Mem} {Q : Option PV → Mem → Prop} {r : Nat} (hk : mK M r = 12) : WP d 163 27 [l0] (vr r :: st) M Q = WP d 163 30 [l0] (vr (mR M r 30) :: st) M Q := w_getr mC_163 d163_27 fE_12_60 rfl (by rw [hk]; rfl)
theorem d163_30 : decode cX12_redo 30 = .ok (.iconst 4, 1) := by decide +kernel
theorem k163_30 {d : Nat} {l0 : Option PV} {st : List PV} {M : Mem} {Q : Option PV → Mem → Prop} : WP d 163 30 [l0] (st) M Q = WP d 163 31 [l0] (vi 4 :: st) M Q := w_iconst mC_163 d163_30 (by decide)
theorem d163_31 : decode cX12_redo 31 = .ok (.aload_n 0, 1) := by decide +kernel
theorem k163_31 {d x : Nat} {st : List PV} {M : Mem} {Q : Option PV → Mem → Prop} : WP d 163 31 [some (vr x)] (st) M Q = WP d 163 32 [some (vr x)] (vr x :: st) M Q := w1 mC_163 d163_31 rfl rfl
theorem d163_32 : decode cX12_redo 32 = .ok (.getfield 152, 3) := by decide +kernel
theorem k163_32 {d : Nat} {l0 : Option PV} {st : List PV} {M : Mem} {Q : Option PV → Mem → Prop} {r : Nat} (hk : mK M r = 12) : WP d 163 32 [l0] (vr r :: st) M Q = WP d 163 35 [l0] (vi (mI M r 29) :: st) M Q := w_get mC_163 d163_32 fE_12_152 rfl (by rw [hk]; rfl)
theorem d163_35 : decode cX12_redo 35 = .ok (.imul, 1) := by decide +kernel
theorem k163_35 {d : Nat} {l0 : Option PV} {st : List PV} {M : Mem} {Q : Option PV → Mem → Prop} {x y : Int32} : WP d 163 35 [l0] (vi y :: vi x :: st) M Q = WP d 163 36 [l0] (vi (x * y) :: st) M Q := w1 mC_163 d163_35 rfl rfl
theorem d163_36 : decode cX12_redo 36 = .ok (.iconst 1, 1) := by decide +kernel
theorem k163_36 {d : Nat} {l0 : Option PV} {st : List PV} {M : Mem} {Q : Option PV → Mem → Prop} : WP d 163 36 [l0] (st) M Q = WP d 163 37 [l0] (vi 1 :: st) M Q := w_iconst mC_163 d163_36 (by decide)
theorem d163_37 : decode cX12_redo 37 = .ok (.iadd, 1) := by decide +kernel
theorem k163_37 {d : Nat} {l0 : Option PV} {st : List PV} {M : Mem} {Q : Option PV → Mem → Prop} {x y : Int32} : WP d 163 37 [l0] (vi y :: vi x :: st) M Q = WP d 163 38 [l0] (vi (x + y) :: st) M Q := w1 mC_163 d163_37 rfl rfl
theorem d163_38 : decode cX12_redo 38 = .ok (.iaload, 1) := by decide +kernel
theorem k163_38 {d : Nat} {l0 : Option PV} {st : List PV} {M : Mem} {Q : Option PV → Mem → Prop} {r : Nat} {j : Int32} (hk : mK M r = 13) (hj : inb j (mN M r)) (h1 : r ≠ 1) : WP d 163 38 [l0] (vi j :: vr r :: st) M Q = WP d 163 39 [l0] (vi (mI M r (ix j)) :: st) M Q := w_iald mC_163 d163_38 (by decide) hk hj h1
theorem d163_39 : decode cX12_redo 39 = .ok (.aload_n 0, 1) := by decide +kernel
theorem k163_39 {d x : Nat} {st : List PV} {M : Mem} {Q : Option PV → Mem → Prop} : WP d 163 39 [some (vr x)] (st) M Q = WP d 163 40 [some (vr x)] (vr x :: st) M Q := w1 mC_163 d163_39 rfl rfl
theorem d163_40 : decode cX12_redo 40 = .ok (.getfield 60, 3) := by decide +kernel
theorem k163_40 {d : Nat} {l0 : Option PV} {st : List PV} {M : Mem} {Q : Option PV → Mem → Prop} {r : Nat} (hk : mK M r = 12) : WP d 163 40 [l0] (vr r :: st) M Q = WP d 163 43 [l0] (vr (mR M r 30) :: st) M Q := w_getr mC_163 d163_40 fE_12_60 rfl (by rw [hk]; rfl)
theorem d163_43 : decode cX12_redo 43 = .ok (.iconst 4, 1) := by decide +kernel
theorem k163_43 {d : Nat} {l0 : Option PV} {st : List PV} {M : Mem} {Q : Option PV → Mem → Prop} : WP d 163 43 [l0] (st) M Q = WP d 163 44 [l0] (vi 4 :: st) M Q := w_iconst mC_163 d163_43 (by decide)
theorem d163_44 : decode cX12_redo 44 = .ok (.aload_n 0, 1) := by decide +kernel
theorem k163_44 {d x : Nat} {st : List PV} {M : Mem} {Q : Option PV → Mem → Prop} : WP d 163 44 [some (vr x)] (st) M Q = WP d 163 45 [some (vr x)] (vr x :: st) M Q := w1 mC_163 d163_44 rfl rfl
theorem d163_45 : decode cX12_redo 45 = .ok (.getfield 152, 3) := by decide +kernel
theorem k163_45 {d : Nat} {l0 : Option PV} {st : List PV} {M : Mem} {Q : Option PV → Mem → Prop} {r : Nat} (hk : mK M r = 12) : WP d 163 45 [l0] (vr r :: st) M Q = WP d 163 48 [l0] (vi (mI M r 29) :: st) M Q := w_get mC_163 d163_45 fE_12_152 rfl (by rw [hk]; rfl)
theorem d163_48 : decode cX12_redo 48 = .ok (.imul, 1) := by decide +kernel
theorem k163_48 {d : Nat} {l0 : Option PV} {st : List PV} {M : Mem} {Q : Option PV → Mem → Prop} {x y : Int32} : WP d 163 48 [l0] (vi y :: vi x :: st) M Q = WP d 163 49 [l0] (vi (x * y) :: st) M Q := w1 mC_163 d163_48 rfl rfl
theorem d163_49 : decode cX12_redo 49 = .ok (.iconst 3, 1) := by decide +kernel
theorem k163_49 {d : Nat} {l0 : Option PV} {st : List PV} {M : Mem} {Q : Option PV → Mem → Prop} : WP d 163 49 [l0] (st) M Q = WP d 163 50 [l0] (vi 3 :: st) M Q := w_iconst mC_163 d163_49 (by decide)
theorem d163_50 : decode cX12_redo 50 = .ok (.iadd, 1) := by decide +kernel
theorem k163_50 {d : Nat} {l0 : Option PV} {st : List PV} {M : Mem} {Q : Option PV → Mem → Prop} {x y : Int32} : WP d 163 50 [l0] (vi y :: vi x :: st) M Q = WP d 163 51 [l0] (vi (x + y) :: st) M Q := w1 mC_163 d163_50 rfl rfl
theorem d163_51 : decode cX12_redo 51 = .ok (.iaload, 1) := by decide +kernel
theorem k163_51 {d : Nat} {l0 : Option PV} {st : List PV} {M : Mem} {Q : Option PV → Mem → Prop} {r : Nat} {j : Int32} (hk : mK M r = 13) (hj : inb j (mN M r)) (h1 : r ≠ 1) : WP d 163 51 [l0] (vi j :: vr r :: st) M Q = WP d 163 52 [l0] (vi (mI M r (ix j)) :: st) M Q := w_iald mC_163 d163_51 (by decide) hk hj h1
theorem d163_52 : decode cX12_redo 52 = .ok (.invokevirtual 148, 3) := by decide +kernel
theorem k163_52 {d : Nat} {l0 : Option PV} {st : List PV} {M : Mem} {Q : Option PV → Mem → Prop} {a0 a1 a2 : Int32} {r : Nat} (hl : szL st ≤ 8) (hk : mK M r = 12) : WP (d + 1) 163 52 [l0] (vi a2 :: vi a1 :: vi a0 :: vr r :: st) M Q = WP d 159 0 [some (vr r), some (vi a0), some (vi a1), some (vi a2)] [] M (fun v M' => WP (d + 1) 163 55 [l0] (psh v st) M' Q) := w_callV mC_163 d163_52 (ci := 12) rfl rfl rfl (Nat.le_of_ble_eq_true rfl) (by decide) rfl hl hk
theorem d163_55 : decode cX12_redo 55 = .ok (.aload_n 0, 1) := by decide +kernel
theorem k163_55 {d x : Nat} {st : List PV} {M : Mem} {Q : Option PV → Mem → Prop} : WP d 163 55 [some (vr x)] (st) M Q = WP d 163 56 [some (vr x)] (vr x :: st) M Q := w1 mC_163 d163_55 rfl rfl
theorem d163_56 : decode cX12_redo 56 = .ok (.dup, 1) := by decide +kernel
theorem k163_56 {d : Nat} {l0 : Option PV} {st : List PV} {M : Mem} {Q : Option PV → Mem → Prop} {x : Nat} : WP d 163 56 [l0] (vr x :: st) M Q = WP d 163 57 [l0] (vr x :: vr x :: st) M Q := w1 mC_163 d163_56 rfl rfl
theorem k163_56i {d : Nat} {l0 : Option PV} {st : List PV} {M : Mem} {Q : Option PV → Mem → Prop} {x : Int32} : WP d 163 56 [l0] (vi x :: st) M Q = WP d 163 57 [l0] (vi x :: vi x :: st) M Q := w1 mC_163 d163_56 rfl rfl
theorem d163_57 : decode cX12_redo 57 = .ok (.getfield 152, 3) := by decide +kernel
theorem k163_57 {d : Nat} {l0 : Option PV} {st : List PV} {M : Mem} {Q : Option PV → Mem → Prop} {r : Nat} (hk : mK M r = 12) : WP d 163 57 [l0] (vr r :: st) M Q = WP d 163 60 [l0] (vi (mI M r 29) :: st) M Q := w_get mC_163 d163_57 fE_12_152 rfl (by rw [hk]; rfl)
theorem d163_60 : decode cX12_redo 60 = .ok (.iconst 1, 1) := by decide +kernel
theorem k163_60 {d : Nat} {l0 : Option PV} {st : List PV} {M : Mem} {Q : Option PV → Mem → Prop} : WP d 163 60 [l0] (st) M Q = WP d 163 61 [l0] (vi 1 :: st) M Q := w_iconst mC_163 d163_60 (by decide)
theorem d163_61 : decode cX12_redo 61 = .ok (.iadd, 1) := by decide +kernel
theorem k163_61 {d : Nat} {l0 : Option PV} {st : List PV} {M : Mem} {Q : Option PV → Mem → Prop} {x y : Int32} : WP d 163 61 [l0] (vi y :: vi x :: st) M Q = WP d 163 62 [l0] (vi (x + y) :: st) M Q := w1 mC_163 d163_61 rfl rfl
theorem d163_62 : decode cX12_redo 62 = .ok (.putfield 152, 3) := by decide +kernel
theorem k163_62 {d : Nat} {l0 : Option PV} {st : List PV} {M : Mem} {Q : Option PV → Mem → Prop} {r : Nat} {x : Int32} (hk : mK M r = 12) : WP d 163 62 [l0] (vi x :: vr r :: st) M Q = WP d 163 65 [l0] (st) (sI M r 29 x) Q := w_put mC_163 d163_62 fE_12_152 (by decide +kernel) (by rw [hk]; rfl)
theorem d163_65 : decode cX12_redo 65 = .ok (.aload_n 0, 1) := by decide +kernel
theorem k163_65 {d x : Nat} {st : List PV} {M : Mem} {Q : Option PV → Mem → Prop} : WP d 163 65 [some (vr x)] (st) M Q = WP d 163 66 [some (vr x)] (vr x :: st) M Q := w1 mC_163 d163_65 rfl rfl
theorem d163_66 : decode cX12_redo 66 = .ok (.getfield 155, 3) := by decide +kernel
theorem k163_66 {d : Nat} {l0 : Option PV} {st : List PV} {M : Mem} {Q : Option PV → Mem → Prop} {r : Nat} (hk : mK M r = 12) : WP d 163 66 [l0] (vr r :: st) M Q = WP d 163 69 [l0] (vi (mI M r 28) :: st) M Q := w_get mC_163 d163_66 fE_12_155 rfl (by rw [hk]; rfl)
theorem d163_69 : decode cX12_redo 69 = .ok (.aload_n 0, 1) := by decide +kernel
theorem k163_69 {d x : Nat} {st : List PV} {M : Mem} {Q : Option PV → Mem → Prop} : WP d 163 69 [some (vr x)] (st) M Q = WP d 163 70 [some (vr x)] (vr x :: st) M Q := w1 mC_163 d163_69 rfl rfl
theorem d163_70 : decode cX12_redo 70 = .ok (.getfield 152, 3) := by decide +kernel
theorem k163_70 {d : Nat} {l0 : Option PV} {st : List PV} {M : Mem} {Q : Option PV → Mem → Prop} {r : Nat} (hk : mK M r = 12) : WP d 163 70 [l0] (vr r :: st) M Q = WP d 163 73 [l0] (vi (mI M r 29) :: st) M Q := w_get mC_163 d163_70 fE_12_152 rfl (by rw [hk]; rfl)
theorem d163_73 : decode cX12_redo 73 = .ok (.isub, 1) := by decide +kernel
theorem k163_73 {d : Nat} {l0 : Option PV} {st : List PV} {M : Mem} {Q : Option PV → Mem → Prop} {x y : Int32} : WP d 163 73 [l0] (vi y :: vi x :: st) M Q = WP d 163 74 [l0] (vi (x - y) :: st) M Q := w1 mC_163 d163_73 rfl rfl
theorem d163_74 : decode cX12_redo 74 = .ok (.ireturn, 1) := by decide +kernel
theorem k163_74 {d : Nat} {l0 : Option PV} {M : Mem} {Q : Option PV → Mem → Prop} {x : Int32} : WP d 163 74 [l0] ([vi x]) M Q = Q (some (vi x)) M := w_iret mC_163 d163_74 rfl
theorem d164_0 : decode cX12_feed 0 = .ok (.iload_n 1, 1) := by decide +kernel
theorem k164_0 {d : Nat} {x : Int32} {l0 : Option PV} {st : List PV} {M : Mem} {Q : Option PV → Mem → Prop} : WP d 164 0 [l0, some (vi x)] (st) M Q = WP d 164 1 [l0, some (vi x)] (vi x :: st) M Q := w1 mC_164 d164_0 rfl rfl
theorem d164_1 : decode cX12_feed 1 = .ok (.iconst 0, 1) := by decide +kernel
theorem k164_1 {d : Nat} {l0 l1 : Option PV} {st : List PV} {M : Mem} {Q : Option PV → Mem → Prop} : WP d 164 1 [l0, l1] (st) M Q = WP d 164 2 [l0, l1] (vi 0 :: st) M Q := w_iconst mC_164 d164_1 (by decide)
theorem d164_2 : decode cX12_feed 2 = .ok (.sipush 255, 3) := by decide +kernel
theorem k164_2 {d : Nat} {l0 l1 : Option PV} {st : List PV} {M : Mem} {Q : Option PV → Mem → Prop} : WP d 164 2 [l0, l1] (st) M Q = WP d 164 5 [l0, l1] (vi 255 :: st) M Q := w_sipush mC_164 d164_2 (by decide)
theorem d164_5 : decode cX12_feed 5 = .ok (.invokestatic 104, 3) := by decide +kernel
theorem k164_5 {d : Nat} {l0 l1 : Option PV} {st : List PV} {M : Mem} {Q : Option PV → Mem → Prop} {a0 a1 a2 : Int32} (hl : szL st ≤ 8) : WP (d + 1) 164 5 [l0, l1] (vi a2 :: vi a1 :: vi a0 :: st) M Q = WP d 145 0 [some (vi a0), some (vi a1), some (vi a2)] [] M (fun v M' => WP (d + 1) 164 8 [l0, l1] (psh v st) M' Q) := w_callS mC_164 d164_5 rfl rfl (Nat.le_of_ble_eq_true rfl) (by decide) rfl hl
theorem d164_8 : decode cX12_feed 8 = .ok (.ifCond .ne 5, 3) := by decide +kernel
theorem k164_8 {d : Nat} {l0 l1 : Option PV} {st : List PV} {M : Mem} {Q : Option PV → Mem → Prop} {x : Int32} : WP d 164 8 [l0, l1] (vi x :: st) M Q = (if x = 0 then WP d 164 11 [l0, l1] (st) M Q else WP d 164 13 [l0, l1] (st) M Q) := w_if_ne mC_164 d164_8 (by decide)
theorem d164_11 : decode cX12_feed 11 = .ok (.iconst (-1), 1) := by decide +kernel
theorem k164_11 {d : Nat} {l0 l1 : Option PV} {st : List PV} {M : Mem} {Q : Option PV → Mem → Prop} : WP d 164 11 [l0, l1] (st) M Q = WP d 164 12 [l0, l1] (vi (-1) :: st) M Q := w_iconst mC_164 d164_11 (by decide)
theorem d164_12 : decode cX12_feed 12 = .ok (.ireturn, 1) := by decide +kernel
theorem k164_12 {d : Nat} {l0 l1 : Option PV} {M : Mem} {Q : Option PV → Mem → Prop} {x : Int32} : WP d 164 12 [l0, l1] ([vi x]) M Q = Q (some (vi x)) M := w_iret mC_164 d164_12 rfl
theorem d164_13 : decode cX12_feed 13 = .ok (.aload_n 0, 1) := by decide +kernel
theorem k164_13 {d x : Nat} {l1 : Option PV} {st : List PV} {M : Mem} {Q : Option PV → Mem → Prop} : WP d 164 13 [some (vr x), l1] (st) M Q = WP d 164 14 [some (vr x), l1] (vr x :: st) M Q := w1 mC_164 d164_13 rfl rfl
theorem d164_14 : decode cX12_feed 14 = .ok (.getfield 158, 3) := by decide +kernel
theorem k164_14 {d : Nat} {l0 l1 : Option PV} {st : List PV} {M : Mem} {Q : Option PV → Mem → Prop} {r : Nat} (hk : mK M r = 12) : WP d 164 14 [l0, l1] (vr r :: st) M Q = WP d 164 17 [l0, l1] (vi (mI M r 4) :: st) M Q := w_get mC_164 d164_14 fE_12_158 rfl (by rw [hk]; rfl)
theorem d164_17 : decode cX12_feed 17 = .ok (.bipush 120, 2) := by decide +kernel
theorem k164_17 {d : Nat} {l0 l1 : Option PV} {st : List PV} {M : Mem} {Q : Option PV → Mem → Prop} : WP d 164 17 [l0, l1] (st) M Q = WP d 164 19 [l0, l1] (vi 120 :: st) M Q := w_bipush mC_164 d164_17 (by decide)
theorem d164_19 : decode cX12_feed 19 = .ok (.if_icmp .ne 6, 3) := by decide +kernel
theorem k164_19 {d : Nat} {l0 l1 : Option PV} {st : List PV} {M : Mem} {Q : Option PV → Mem → Prop} {x y : Int32} : WP d 164 19 [l0, l1] (vi y :: vi x :: st) M Q = (if x = y then WP d 164 22 [l0, l1] (st) M Q else WP d 164 25 [l0, l1] (st) M Q) := w_ic_ne mC_164 d164_19 (by decide)
theorem d164_22 : decode cX12_feed 22 = .ok (.bipush (-3), 2) := by decide +kernel
theorem k164_22 {d : Nat} {l0 l1 : Option PV} {st : List PV} {M : Mem} {Q : Option PV → Mem → Prop} : WP d 164 22 [l0, l1] (st) M Q = WP d 164 24 [l0, l1] (vi (-3) :: st) M Q := w_bipush mC_164 d164_22 (by decide)
theorem d164_24 : decode cX12_feed 24 = .ok (.ireturn, 1) := by decide +kernel
theorem k164_24 {d : Nat} {l0 l1 : Option PV} {M : Mem} {Q : Option PV → Mem → Prop} {x : Int32} : WP d 164 24 [l0, l1] ([vi x]) M Q = Q (some (vi x)) M := w_iret mC_164 d164_24 rfl
theorem d164_25 : decode cX12_feed 25 = .ok (.aload_n 0, 1) := by decide +kernel
theorem k164_25 {d x : Nat} {l1 : Option PV} {st : List PV} {M : Mem} {Q : Option PV → Mem → Prop} : WP d 164 25 [some (vr x), l1] (st) M Q = WP d 164 26 [some (vr x), l1] (vr x :: st) M Q := w1 mC_164 d164_25 rfl rfl
theorem d164_26 : decode cX12_feed 26 = .ok (.getfield 18, 3) := by decide +kernel
theorem k164_26 {d : Nat} {l0 l1 : Option PV} {st : List PV} {M : Mem} {Q : Option PV → Mem → Prop} {r : Nat} (hk : mK M r = 12) : WP d 164 26 [l0, l1] (vr r :: st) M Q = WP d 164 29 [l0, l1] (vr (mR M r 5) :: st) M Q := w_getr mC_164 d164_26 fE_12_18 rfl (by rw [hk]; rfl)
theorem d164_29 : decode cX12_feed 29 = .ok (.aload_n 0, 1) := by decide +kernel
theorem k164_29 {d x : Nat} {l1 : Option PV} {st : List PV} {M : Mem} {Q : Option PV → Mem → Prop} : WP d 164 29 [some (vr x), l1] (st) M Q = WP d 164 30 [some (vr x), l1] (vr x :: st) M Q := w1 mC_164 d164_29 rfl rfl
theorem d164_30 : decode cX12_feed 30 = .ok (.dup, 1) := by decide +kernel
theorem k164_30 {d : Nat} {l0 l1 : Option PV} {st : List PV} {M : Mem} {Q : Option PV → Mem → Prop} {x : Nat} : WP d 164 30 [l0, l1] (vr x :: st) M Q = WP d 164 31 [l0, l1] (vr x :: vr x :: st) M Q := w1 mC_164 d164_30 rfl rfl
theorem k164_30i {d : Nat} {l0 l1 : Option PV} {st : List PV} {M : Mem} {Q : Option PV → Mem → Prop} {x : Int32} : WP d 164 30 [l0, l1] (vi x :: st) M Q = WP d 164 31 [l0, l1] (vi x :: vi x :: st) M Q := w1 mC_164 d164_30 rfl rfl
theorem d164_31 : decode cX12_feed 31 = .ok (.getfield 158, 3) := by decide +kernel
theorem k164_31 {d : Nat} {l0 l1 : Option PV} {st : List PV} {M : Mem} {Q : Option PV → Mem → Prop} {r : Nat} (hk : mK M r = 12) : WP d 164 31 [l0, l1] (vr r :: st) M Q = WP d 164 34 [l0, l1] (vi (mI M r 4) :: st) M Q := w_get mC_164 d164_31 fE_12_158 rfl (by rw [hk]; rfl)
theorem d164_34 : decode cX12_feed 34 = .ok (.dup_x1, 1) := by decide +kernel
theorem k164_34 {d : Nat} {l0 l1 : Option PV} {st : List PV} {M : Mem} {Q : Option PV → Mem → Prop} {a : Int32} {b : Nat} : WP d 164 34 [l0, l1] (vi a :: vr b :: st) M Q = WP d 164 35 [l0, l1] (vi a :: vr b :: vi a :: st) M Q := w1 mC_164 d164_34 rfl rfl
theorem d164_35 : decode cX12_feed 35 = .ok (.iconst 1, 1) := by decide +kernel
theorem k164_35 {d : Nat} {l0 l1 : Option PV} {st : List PV} {M : Mem} {Q : Option PV → Mem → Prop} : WP d 164 35 [l0, l1] (st) M Q = WP d 164 36 [l0, l1] (vi 1 :: st) M Q := w_iconst mC_164 d164_35 (by decide)
theorem d164_36 : decode cX12_feed 36 = .ok (.iadd, 1) := by decide +kernel
theorem k164_36 {d : Nat} {l0 l1 : Option PV} {st : List PV} {M : Mem} {Q : Option PV → Mem → Prop} {x y : Int32} : WP d 164 36 [l0, l1] (vi y :: vi x :: st) M Q = WP d 164 37 [l0, l1] (vi (x + y) :: st) M Q := w1 mC_164 d164_36 rfl rfl
theorem d164_37 : decode cX12_feed 37 = .ok (.putfield 158, 3) := by decide +kernel
theorem k164_37 {d : Nat} {l0 l1 : Option PV} {st : List PV} {M : Mem} {Q : Option PV → Mem → Prop} {r : Nat} {x : Int32} (hk : mK M r = 12) : WP d 164 37 [l0, l1] (vi x :: vr r :: st) M Q = WP d 164 40 [l0, l1] (st) (sI M r 4 x) Q := w_put mC_164 d164_37 fE_12_158 (by decide +kernel) (by rw [hk]; rfl)
theorem d164_40 : decode cX12_feed 40 = .ok (.iload_n 1, 1) := by decide +kernel
theorem k164_40 {d : Nat} {x : Int32} {l0 : Option PV} {st : List PV} {M : Mem} {Q : Option PV → Mem → Prop} : WP d 164 40 [l0, some (vi x)] (st) M Q = WP d 164 41 [l0, some (vi x)] (vi x :: st) M Q := w1 mC_164 d164_40 rfl rfl
theorem d164_41 : decode cX12_feed 41 = .ok (.iastore, 1) := by decide +kernel
theorem k164_41 {d : Nat} {l0 l1 : Option PV} {st : List PV} {M : Mem} {Q : Option PV → Mem → Prop} {r : Nat} {j x : Int32} (hk : mK M r = 13) (hj : inb j (mN M r)) (h1 : r ≠ 1) : WP d 164 41 [l0, l1] (vi x :: vi j :: vr r :: st) M Q = WP d 164 42 [l0, l1] (st) (sI M r (ix j) x) Q := w_iast mC_164 d164_41 hk hj h1
theorem d164_42 : decode cX12_feed 42 = .ok (.aload_n 0, 1) := by decide +kernel
theorem k164_42 {d x : Nat} {l1 : Option PV} {st : List PV} {M : Mem} {Q : Option PV → Mem → Prop} : WP d 164 42 [some (vr x), l1] (st) M Q = WP d 164 43 [some (vr x), l1] (vr x :: st) M Q := w1 mC_164 d164_42 rfl rfl
theorem d164_43 : decode cX12_feed 43 = .ok (.getfield 158, 3) := by decide +kernel
theorem k164_43 {d : Nat} {l0 l1 : Option PV} {st : List PV} {M : Mem} {Q : Option PV → Mem → Prop} {r : Nat} (hk : mK M r = 12) : WP d 164 43 [l0, l1] (vr r :: st) M Q = WP d 164 46 [l0, l1] (vi (mI M r 4) :: st) M Q := w_get mC_164 d164_43 fE_12_158 rfl (by rw [hk]; rfl)
theorem d164_46 : decode cX12_feed 46 = .ok (.ireturn, 1) := by decide +kernel
theorem k164_46 {d : Nat} {l0 l1 : Option PV} {M : Mem} {Q : Option PV → Mem → Prop} {x : Int32} : WP d 164 46 [l0, l1] ([vi x]) M Q = Q (some (vi x)) M := w_iret mC_164 d164_46 rfl
theorem d165_0 : decode cX12_sign 0 = .ok (.aload_n 0, 1) := by decide +kernel
theorem k165_0 {d x : Nat} {st : List PV} {M : Mem} {Q : Option PV → Mem → Prop} : WP d 165 0 [some (vr x)] (st) M Q = WP d 165 1 [some (vr x)] (vr x :: st) M Q := w1 mC_165 d165_0 rfl rfl
theorem d165_1 : decode cX12_sign 1 = .ok (.getfield 161, 3) := by decide +kernel
theorem k165_1 {d : Nat} {l0 : Option PV} {st : List PV} {M : Mem} {Q : Option PV → Mem → Prop} {r : Nat} (hk : mK M r = 12) : WP d 165 1 [l0] (vr r :: st) M Q = WP d 165 4 [l0] (vi (mI M r 12) :: st) M Q := w_get mC_165 d165_1 fE_12_161 rfl (by rw [hk]; rfl)
theorem d165_4 : decode cX12_sign 4 = .ok (.aload_n 0, 1) := by decide +kernel
theorem k165_4 {d x : Nat} {st : List PV} {M : Mem} {Q : Option PV → Mem → Prop} : WP d 165 4 [some (vr x)] (st) M Q = WP d 165 5 [some (vr x)] (vr x :: st) M Q := w1 mC_165 d165_4 rfl rfl
theorem d165_5 : decode cX12_sign 5 = .ok (.getfield 158, 3) := by decide +kernel
theorem k165_5 {d : Nat} {l0 : Option PV} {st : List PV} {M : Mem} {Q : Option PV → Mem → Prop} {r : Nat} (hk : mK M r = 12) : WP d 165 5 [l0] (vr r :: st) M Q = WP d 165 8 [l0] (vi (mI M r 4) :: st) M Q := w_get mC_165 d165_5 fE_12_158 rfl (by rw [hk]; rfl)
theorem d165_8 : decode cX12_sign 8 = .ok (.if_icmp .ge 15, 3) := by decide +kernel
theorem k165_8 {d : Nat} {l0 : Option PV} {st : List PV} {M : Mem} {Q : Option PV → Mem → Prop} {x y : Int32} : WP d 165 8 [l0] (vi y :: vi x :: st) M Q = (if y ≤ x then WP d 165 23 [l0] (st) M Q else WP d 165 11 [l0] (st) M Q) := w_ic_ge mC_165 d165_8 (by decide)
theorem d165_11 : decode cX12_sign 11 = .ok (.aload_n 0, 1) := by decide +kernel
theorem k165_11 {d x : Nat} {st : List PV} {M : Mem} {Q : Option PV → Mem → Prop} : WP d 165 11 [some (vr x)] (st) M Q = WP d 165 12 [some (vr x)] (vr x :: st) M Q := w1 mC_165 d165_11 rfl rfl
theorem d165_12 : decode cX12_sign 12 = .ok (.getfield 18, 3) := by decide +kernel
theorem k165_12 {d : Nat} {l0 : Option PV} {st : List PV} {M : Mem} {Q : Option PV → Mem → Prop} {r : Nat} (hk : mK M r = 12) : WP d 165 12 [l0] (vr r :: st) M Q = WP d 165 15 [l0] (vr (mR M r 5) :: st) M Q := w_getr mC_165 d165_12 fE_12_18 rfl (by rw [hk]; rfl)
theorem d165_15 : decode cX12_sign 15 = .ok (.aload_n 0, 1) := by decide +kernel
theorem k165_15 {d x : Nat} {st : List PV} {M : Mem} {Q : Option PV → Mem → Prop} : WP d 165 15 [some (vr x)] (st) M Q = WP d 165 16 [some (vr x)] (vr x :: st) M Q := w1 mC_165 d165_15 rfl rfl
theorem d165_16 : decode cX12_sign 16 = .ok (.getfield 161, 3) := by decide +kernel
theorem k165_16 {d : Nat} {l0 : Option PV} {st : List PV} {M : Mem} {Q : Option PV → Mem → Prop} {r : Nat} (hk : mK M r = 12) : WP d 165 16 [l0] (vr r :: st) M Q = WP d 165 19 [l0] (vi (mI M r 12) :: st) M Q := w_get mC_165 d165_16 fE_12_161 rfl (by rw [hk]; rfl)
theorem d165_19 : decode cX12_sign 19 = .ok (.iaload, 1) := by decide +kernel
theorem k165_19 {d : Nat} {l0 : Option PV} {st : List PV} {M : Mem} {Q : Option PV → Mem → Prop} {r : Nat} {j : Int32} (hk : mK M r = 13) (hj : inb j (mN M r)) (h1 : r ≠ 1) : WP d 165 19 [l0] (vi j :: vr r :: st) M Q = WP d 165 20 [l0] (vi (mI M r (ix j)) :: st) M Q := w_iald mC_165 d165_19 (by decide) hk hj h1
theorem d165_20 : decode cX12_sign 20 = .ok (.goto 4, 3) := by decide +kernel
theorem k165_20 {d : Nat} {l0 : Option PV} {st : List PV} {M : Mem} {Q : Option PV → Mem → Prop} : WP d 165 20 [l0] (st) M Q = WP d 165 24 [l0] (st) M Q := w_goto mC_165 d165_20 (by decide)
theorem d165_23 : decode cX12_sign 23 = .ok (.iconst (-1), 1) := by decide +kernel
theorem k165_23 {d : Nat} {l0 : Option PV} {st : List PV} {M : Mem} {Q : Option PV → Mem → Prop} : WP d 165 23 [l0] (st) M Q = WP d 165 24 [l0] (vi (-1) :: st) M Q := w_iconst mC_165 d165_23 (by decide)
theorem d165_24 : decode cX12_sign 24 = .ok (.ireturn, 1) := by decide +kernel
theorem k165_24 {d : Nat} {l0 : Option PV} {M : Mem} {Q : Option PV → Mem → Prop} {x : Int32} : WP d 165 24 [l0] ([vi x]) M Q = Q (some (vi x)) M := w_iret mC_165 d165_24 rfl
theorem d166_0 : decode cX12_is 0 = .ok (.aload_n 0, 1) := by decide +kernel
theorem k166_0 {d x : Nat} {l1 : Option PV} {st : List PV} {M : Mem} {Q : Option PV → Mem → Prop} : WP d 166 0 [some (vr x), l1] (st) M Q = WP d 166 1 [some (vr x), l1] (vr x :: st) M Q := w1 mC_166 d166_0 rfl rfl
theorem d166_1 : decode cX12_is 1 = .ok (.invokevirtual 164, 3) := by decide +kernel
theorem k166_1 {d : Nat} {l0 l1 : Option PV} {st : List PV} {M : Mem} {Q : Option PV → Mem → Prop} {r : Nat} (hl : szL st ≤ 8) (hk : mK M r = 12) : WP (d + 1) 166 1 [l0, l1] (vr r :: st) M Q = WP d 165 0 [some (vr r)] [] M (fun v M' => WP (d + 1) 166 4 [l0, l1] (psh v st) M' Q) := w_callV mC_166 d166_1 (ci := 12) rfl rfl rfl (Nat.le_of_ble_eq_true rfl) (by decide) rfl hl hk
theorem d166_4 : decode cX12_is 4 = .ok (.iload_n 1, 1) := by decide +kernel
theorem k166_4 {d : Nat} {x : Int32} {l0 : Option PV} {st : List PV} {M : Mem} {Q : Option PV → Mem → Prop} : WP d 166 4 [l0, some (vi x)] (st) M Q = WP d 166 5 [l0, some (vi x)] (vi x :: st) M Q := w1 mC_166 d166_4 rfl rfl
theorem d166_5 : decode cX12_is 5 = .ok (.if_icmp .eq 5, 3) := by decide +kernel
theorem k166_5 {d : Nat} {l0 l1 : Option PV} {st : List PV} {M : Mem} {Q : Option PV → Mem → Prop} {x y : Int32} : WP d 166 5 [l0, l1] (vi y :: vi x :: st) M Q = (if x = y then WP d 166 10 [l0, l1] (st) M Q else WP d 166 8 [l0, l1] (st) M Q) := w_ic_eq mC_166 d166_5 (by decide)
theorem d166_8 : decode cX12_is 8 = .ok (.iconst 0, 1) := by decide +kernel
theorem k166_8 {d : Nat} {l0 l1 : Option PV} {st : List PV} {M : Mem} {Q : Option PV → Mem → Prop} : WP d 166 8 [l0, l1] (st) M Q = WP d 166 9 [l0, l1] (vi 0 :: st) M Q := w_iconst mC_166 d166_8 (by decide)
theorem d166_9 : decode cX12_is 9 = .ok (.ireturn, 1) := by decide +kernel
theorem k166_9 {d : Nat} {l0 l1 : Option PV} {M : Mem} {Q : Option PV → Mem → Prop} {x : Int32} (hx : x = 0 ∨ x = 1) : WP d 166 9 [l0, l1] ([vi x]) M Q = Q (some (vi x)) M := w_zret mC_166 d166_9 rfl hx
theorem d166_10 : decode cX12_is 10 = .ok (.aload_n 0, 1) := by decide +kernel
theorem k166_10 {d x : Nat} {l1 : Option PV} {st : List PV} {M : Mem} {Q : Option PV → Mem → Prop} : WP d 166 10 [some (vr x), l1] (st) M Q = WP d 166 11 [some (vr x), l1] (vr x :: st) M Q := w1 mC_166 d166_10 rfl rfl
theorem d166_11 : decode cX12_is 11 = .ok (.dup, 1) := by decide +kernel
theorem k166_11 {d : Nat} {l0 l1 : Option PV} {st : List PV} {M : Mem} {Q : Option PV → Mem → Prop} {x : Nat} : WP d 166 11 [l0, l1] (vr x :: st) M Q = WP d 166 12 [l0, l1] (vr x :: vr x :: st) M Q := w1 mC_166 d166_11 rfl rfl
theorem k166_11i {d : Nat} {l0 l1 : Option PV} {st : List PV} {M : Mem} {Q : Option PV → Mem → Prop} {x : Int32} : WP d 166 11 [l0, l1] (vi x :: st) M Q = WP d 166 12 [l0, l1] (vi x :: vi x :: st) M Q := w1 mC_166 d166_11 rfl rfl
theorem d166_12 : decode cX12_is 12 = .ok (.getfield 161, 3) := by decide +kernel
theorem k166_12 {d : Nat} {l0 l1 : Option PV} {st : List PV} {M : Mem} {Q : Option PV → Mem → Prop} {r : Nat} (hk : mK M r = 12) : WP d 166 12 [l0, l1] (vr r :: st) M Q = WP d 166 15 [l0, l1] (vi (mI M r 12) :: st) M Q := w_get mC_166 d166_12 fE_12_161 rfl (by rw [hk]; rfl)
theorem d166_15 : decode cX12_is 15 = .ok (.iconst 1, 1) := by decide +kernel
theorem k166_15 {d : Nat} {l0 l1 : Option PV} {st : List PV} {M : Mem} {Q : Option PV → Mem → Prop} : WP d 166 15 [l0, l1] (st) M Q = WP d 166 16 [l0, l1] (vi 1 :: st) M Q := w_iconst mC_166 d166_15 (by decide)
theorem d166_16 : decode cX12_is 16 = .ok (.iadd, 1) := by decide +kernel
theorem k166_16 {d : Nat} {l0 l1 : Option PV} {st : List PV} {M : Mem} {Q : Option PV → Mem → Prop} {x y : Int32} : WP d 166 16 [l0, l1] (vi y :: vi x :: st) M Q = WP d 166 17 [l0, l1] (vi (x + y) :: st) M Q := w1 mC_166 d166_16 rfl rfl
theorem d166_17 : decode cX12_is 17 = .ok (.putfield 161, 3) := by decide +kernel
theorem k166_17 {d : Nat} {l0 l1 : Option PV} {st : List PV} {M : Mem} {Q : Option PV → Mem → Prop} {r : Nat} {x : Int32} (hk : mK M r = 12) : WP d 166 17 [l0, l1] (vi x :: vr r :: st) M Q = WP d 166 20 [l0, l1] (st) (sI M r 12 x) Q := w_put mC_166 d166_17 fE_12_161 (by decide +kernel) (by rw [hk]; rfl)
theorem d166_20 : decode cX12_is 20 = .ok (.iconst 1, 1) := by decide +kernel
theorem k166_20 {d : Nat} {l0 l1 : Option PV} {st : List PV} {M : Mem} {Q : Option PV → Mem → Prop} : WP d 166 20 [l0, l1] (st) M Q = WP d 166 21 [l0, l1] (vi 1 :: st) M Q := w_iconst mC_166 d166_20 (by decide)
theorem d166_21 : decode cX12_is 21 = .ok (.ireturn, 1) := by decide +kernel
theorem k166_21 {d : Nat} {l0 l1 : Option PV} {M : Mem} {Q : Option PV → Mem → Prop} {x : Int32} (hx : x = 0 ∨ x = 1) : WP d 166 21 [l0, l1] ([vi x]) M Q = Q (some (vi x)) M := w_zret mC_166 d166_21 rfl hx
theorem d167_0 : decode cX12_codes 0 = .ok (.aload_n 0, 1) := by decide +kernel
theorem k167_0 {d x : Nat} {l1 : Option PV} {st : List PV} {M : Mem} {Q : Option PV → Mem → Prop} : WP d 167 0 [some (vr x), l1] (st) M Q = WP d 167 1 [some (vr x), l1] (vr x :: st) M Q := w1 mC_167 d167_0 rfl rfl
theorem d167_1 : decode cX12_codes 1 = .ok (.getfield 42, 3) := by decide +kernel
theorem k167_1 {d : Nat} {l0 l1 : Option PV} {st : List PV} {M : Mem} {Q : Option PV → Mem → Prop} {r : Nat} (hk : mK M r = 12) : WP d 167 1 [l0, l1] (vr r :: st) M Q = WP d 167 4 [l0, l1] (vr (mR M r 19) :: st) M Q := w_getr mC_167 d167_1 fE_12_42 rfl (by rw [hk]; rfl)
theorem d167_4 : decode cX12_codes 4 = .ok (.aload_n 0, 1) := by decide +kernel
theorem k167_4 {d x : Nat} {l1 : Option PV} {st : List PV} {M : Mem} {Q : Option PV → Mem → Prop} : WP d 167 4 [some (vr x), l1] (st) M Q = WP d 167 5 [some (vr x), l1] (vr x :: st) M Q := w1 mC_167 d167_4 rfl rfl
theorem d167_5 : decode cX12_codes 5 = .ok (.dup, 1) := by decide +kernel
theorem k167_5 {d : Nat} {l0 l1 : Option PV} {st : List PV} {M : Mem} {Q : Option PV → Mem → Prop} {x : Nat} : WP d 167 5 [l0, l1] (vr x :: st) M Q = WP d 167 6 [l0, l1] (vr x :: vr x :: st) M Q := w1 mC_167 d167_5 rfl rfl
theorem k167_5i {d : Nat} {l0 l1 : Option PV} {st : List PV} {M : Mem} {Q : Option PV → Mem → Prop} {x : Int32} : WP d 167 5 [l0, l1] (vi x :: st) M Q = WP d 167 6 [l0, l1] (vi x :: vi x :: st) M Q := w1 mC_167 d167_5 rfl rfl
theorem d167_6 : decode cX12_codes 6 = .ok (.getfield 168, 3) := by decide +kernel
theorem k167_6 {d : Nat} {l0 l1 : Option PV} {st : List PV} {M : Mem} {Q : Option PV → Mem → Prop} {r : Nat} (hk : mK M r = 12) : WP d 167 6 [l0, l1] (vr r :: st) M Q = WP d 167 9 [l0, l1] (vi (mI M r 14) :: st) M Q := w_get mC_167 d167_6 fE_12_168 rfl (by rw [hk]; rfl)
theorem d167_9 : decode cX12_codes 9 = .ok (.dup_x1, 1) := by decide +kernel
theorem k167_9 {d : Nat} {l0 l1 : Option PV} {st : List PV} {M : Mem} {Q : Option PV → Mem → Prop} {a : Int32} {b : Nat} : WP d 167 9 [l0, l1] (vi a :: vr b :: st) M Q = WP d 167 10 [l0, l1] (vi a :: vr b :: vi a :: st) M Q := w1 mC_167 d167_9 rfl rfl
theorem d167_10 : decode cX12_codes 10 = .ok (.iconst 1, 1) := by decide +kernel
theorem k167_10 {d : Nat} {l0 l1 : Option PV} {st : List PV} {M : Mem} {Q : Option PV → Mem → Prop} : WP d 167 10 [l0, l1] (st) M Q = WP d 167 11 [l0, l1] (vi 1 :: st) M Q := w_iconst mC_167 d167_10 (by decide)
theorem d167_11 : decode cX12_codes 11 = .ok (.iadd, 1) := by decide +kernel
theorem k167_11 {d : Nat} {l0 l1 : Option PV} {st : List PV} {M : Mem} {Q : Option PV → Mem → Prop} {x y : Int32} : WP d 167 11 [l0, l1] (vi y :: vi x :: st) M Q = WP d 167 12 [l0, l1] (vi (x + y) :: st) M Q := w1 mC_167 d167_11 rfl rfl
theorem d167_12 : decode cX12_codes 12 = .ok (.putfield 168, 3) := by decide +kernel
theorem k167_12 {d : Nat} {l0 l1 : Option PV} {st : List PV} {M : Mem} {Q : Option PV → Mem → Prop} {r : Nat} {x : Int32} (hk : mK M r = 12) : WP d 167 12 [l0, l1] (vi x :: vr r :: st) M Q = WP d 167 15 [l0, l1] (st) (sI M r 14 x) Q := w_put mC_167 d167_12 fE_12_168 (by decide +kernel) (by rw [hk]; rfl)
theorem d167_15 : decode cX12_codes 15 = .ok (.iload_n 1, 1) := by decide +kernel
theorem k167_15 {d : Nat} {x : Int32} {l0 : Option PV} {st : List PV} {M : Mem} {Q : Option PV → Mem → Prop} : WP d 167 15 [l0, some (vi x)] (st) M Q = WP d 167 16 [l0, some (vi x)] (vi x :: st) M Q := w1 mC_167 d167_15 rfl rfl
theorem d167_16 : decode cX12_codes 16 = .ok (.iastore, 1) := by decide +kernel
theorem k167_16 {d : Nat} {l0 l1 : Option PV} {st : List PV} {M : Mem} {Q : Option PV → Mem → Prop} {r : Nat} {j x : Int32} (hk : mK M r = 13) (hj : inb j (mN M r)) (h1 : r ≠ 1) : WP d 167 16 [l0, l1] (vi x :: vi j :: vr r :: st) M Q = WP d 167 17 [l0, l1] (st) (sI M r (ix j) x) Q := w_iast mC_167 d167_16 hk hj h1
theorem d167_17 : decode cX12_codes 17 = .ok (.iconst 1, 1) := by decide +kernel
theorem k167_17 {d : Nat} {l0 l1 : Option PV} {st : List PV} {M : Mem} {Q : Option PV → Mem → Prop} : WP d 167 17 [l0, l1] (st) M Q = WP d 167 18 [l0, l1] (vi 1 :: st) M Q := w_iconst mC_167 d167_17 (by decide)
theorem d167_18 : decode cX12_codes 18 = .ok (.ireturn, 1) := by decide +kernel
theorem k167_18 {d : Nat} {l0 l1 : Option PV} {M : Mem} {Q : Option PV → Mem → Prop} {x : Int32} (hx : x = 0 ∨ x = 1) : WP d 167 18 [l0, l1] ([vi x]) M Q = Q (some (vi x)) M := w_zret mC_167 d167_18 rfl hx
theorem d168_0 : decode cX12_isDigit 0 = .ok (.aload_n 0, 1) := by decide +kernel
theorem k168_0 {d x : Nat} {st : List PV} {M : Mem} {Q : Option PV → Mem → Prop} : WP d 168 0 [some (vr x)] (st) M Q = WP d 168 1 [some (vr x)] (vr x :: st) M Q := w1 mC_168 d168_0 rfl rfl
theorem d168_1 : decode cX12_isDigit 1 = .ok (.invokevirtual 164, 3) := by decide +kernel
theorem k168_1 {d : Nat} {l0 : Option PV} {st : List PV} {M : Mem} {Q : Option PV → Mem → Prop} {r : Nat} (hl : szL st ≤ 8) (hk : mK M r = 12) : WP (d + 1) 168 1 [l0] (vr r :: st) M Q = WP d 165 0 [some (vr r)] [] M (fun v M' => WP (d + 1) 168 4 [l0] (psh v st) M' Q) := w_callV mC_168 d168_1 (ci := 12) rfl rfl rfl (Nat.le_of_ble_eq_true rfl) (by decide) rfl hl hk
theorem d168_4 : decode cX12_isDigit 4 = .ok (.bipush 48, 2) := by decide +kernel
theorem k168_4 {d : Nat} {l0 : Option PV} {st : List PV} {M : Mem} {Q : Option PV → Mem → Prop} : WP d 168 4 [l0] (st) M Q = WP d 168 6 [l0] (vi 48 :: st) M Q := w_bipush mC_168 d168_4 (by decide)
theorem d168_6 : decode cX12_isDigit 6 = .ok (.if_icmp .lt 16, 3) := by decide +kernel
theorem k168_6 {d : Nat} {l0 : Option PV} {st : List PV} {M : Mem} {Q : Option PV → Mem → Prop} {x y : Int32} : WP d 168 6 [l0] (vi y :: vi x :: st) M Q = (if x < y then WP d 168 22 [l0] (st) M Q else WP d 168 9 [l0] (st) M Q) := w_ic_lt mC_168 d168_6 (by decide)
theorem d168_9 : decode cX12_isDigit 9 = .ok (.aload_n 0, 1) := by decide +kernel
theorem k168_9 {d x : Nat} {st : List PV} {M : Mem} {Q : Option PV → Mem → Prop} : WP d 168 9 [some (vr x)] (st) M Q = WP d 168 10 [some (vr x)] (vr x :: st) M Q := w1 mC_168 d168_9 rfl rfl
theorem d168_10 : decode cX12_isDigit 10 = .ok (.invokevirtual 164, 3) := by decide +kernel
theorem k168_10 {d : Nat} {l0 : Option PV} {st : List PV} {M : Mem} {Q : Option PV → Mem → Prop} {r : Nat} (hl : szL st ≤ 8) (hk : mK M r = 12) : WP (d + 1) 168 10 [l0] (vr r :: st) M Q = WP d 165 0 [some (vr r)] [] M (fun v M' => WP (d + 1) 168 13 [l0] (psh v st) M' Q) := w_callV mC_168 d168_10 (ci := 12) rfl rfl rfl (Nat.le_of_ble_eq_true rfl) (by decide) rfl hl hk
theorem d168_13 : decode cX12_isDigit 13 = .ok (.bipush 57, 2) := by decide +kernel
theorem k168_13 {d : Nat} {l0 : Option PV} {st : List PV} {M : Mem} {Q : Option PV → Mem → Prop} : WP d 168 13 [l0] (st) M Q = WP d 168 15 [l0] (vi 57 :: st) M Q := w_bipush mC_168 d168_13 (by decide)
theorem d168_15 : decode cX12_isDigit 15 = .ok (.if_icmp .gt 7, 3) := by decide +kernel
theorem k168_15 {d : Nat} {l0 : Option PV} {st : List PV} {M : Mem} {Q : Option PV → Mem → Prop} {x y : Int32} : WP d 168 15 [l0] (vi y :: vi x :: st) M Q = (if y < x then WP d 168 22 [l0] (st) M Q else WP d 168 18 [l0] (st) M Q) := w_ic_gt mC_168 d168_15 (by decide)
theorem d168_18 : decode cX12_isDigit 18 = .ok (.iconst 1, 1) := by decide +kernel
theorem k168_18 {d : Nat} {l0 : Option PV} {st : List PV} {M : Mem} {Q : Option PV → Mem → Prop} : WP d 168 18 [l0] (st) M Q = WP d 168 19 [l0] (vi 1 :: st) M Q := w_iconst mC_168 d168_18 (by decide)
theorem d168_19 : decode cX12_isDigit 19 = .ok (.goto 4, 3) := by decide +kernel
theorem k168_19 {d : Nat} {l0 : Option PV} {st : List PV} {M : Mem} {Q : Option PV → Mem → Prop} : WP d 168 19 [l0] (st) M Q = WP d 168 23 [l0] (st) M Q := w_goto mC_168 d168_19 (by decide)
theorem d168_22 : decode cX12_isDigit 22 = .ok (.iconst 0, 1) := by decide +kernel
theorem k168_22 {d : Nat} {l0 : Option PV} {st : List PV} {M : Mem} {Q : Option PV → Mem → Prop} : WP d 168 22 [l0] (st) M Q = WP d 168 23 [l0] (vi 0 :: st) M Q := w_iconst mC_168 d168_22 (by decide)
theorem d168_23 : decode cX12_isDigit 23 = .ok (.ireturn, 1) := by decide +kernel
theorem k168_23 {d : Nat} {l0 : Option PV} {M : Mem} {Q : Option PV → Mem → Prop} {x : Int32} (hx : x = 0 ∨ x = 1) : WP d 168 23 [l0] ([vi x]) M Q = Q (some (vi x)) M := w_zret mC_168 d168_23 rfl hx
theorem d169_0 : decode cX12_nameOf 0 = .ok (.iload_n 0, 1) := by decide +kernel
theorem k169_0 {d : Nat} {x : Int32} {st : List PV} {M : Mem} {Q : Option PV → Mem → Prop} : WP d 169 0 [some (vi x)] (st) M Q = WP d 169 1 [some (vi x)] (vi x :: st) M Q := w1 mC_169 d169_0 rfl rfl
theorem d169_1 : decode cX12_nameOf 1 = .ok (.tableswitch 67 98 107 #[55, 67, 59, 67, 65, 63, 61, 67, 67, 57], 55) := by decide +kernel
theorem k169_1c98 {d : Nat} {l0 : Option PV} {st : List PV} {M : Mem} {Q : Option PV → Mem → Prop} : WP d 169 1 [l0] (vi 98 :: st) M Q = WP d 169 56 [l0] (st) M Q := w_sw mC_169 d169_1 (by decide +kernel)
theorem k169_1c99 {d : Nat} {l0 : Option PV} {st : List PV} {M : Mem} {Q : Option PV → Mem → Prop} : WP d 169 1 [l0] (vi 99 :: st) M Q = WP d 169 68 [l0] (st) M Q := w_sw mC_169 d169_1 (by decide +kernel)
theorem k169_1c100 {d : Nat} {l0 : Option PV} {st : List PV} {M : Mem} {Q : Option PV → Mem → Prop} : WP d 169 1 [l0] (vi 100 :: st) M Q = WP d 169 60 [l0] (st) M Q := w_sw mC_169 d169_1 (by decide +kernel)
theorem k169_1c101 {d : Nat} {l0 : Option PV} {st : List PV} {M : Mem} {Q : Option PV → Mem → Prop} : WP d 169 1 [l0] (vi 101 :: st) M Q = WP d 169 68 [l0] (st) M Q := w_sw mC_169 d169_1 (by decide +kernel)
theorem k169_1c102 {d : Nat} {l0 : Option PV} {st : List PV} {M : Mem} {Q : Option PV → Mem → Prop} : WP d 169 1 [l0] (vi 102 :: st) M Q = WP d 169 66 [l0] (st) M Q := w_sw mC_169 d169_1 (by decide +kernel)
theorem k169_1c103 {d : Nat} {l0 : Option PV} {st : List PV} {M : Mem} {Q : Option PV → Mem → Prop} : WP d 169 1 [l0] (vi 103 :: st) M Q = WP d 169 64 [l0] (st) M Q := w_sw mC_169 d169_1 (by decide +kernel)
theorem k169_1c104 {d : Nat} {l0 : Option PV} {st : List PV} {M : Mem} {Q : Option PV → Mem → Prop} : WP d 169 1 [l0] (vi 104 :: st) M Q = WP d 169 62 [l0] (st) M Q := w_sw mC_169 d169_1 (by decide +kernel)
theorem k169_1c105 {d : Nat} {l0 : Option PV} {st : List PV} {M : Mem} {Q : Option PV → Mem → Prop} : WP d 169 1 [l0] (vi 105 :: st) M Q = WP d 169 68 [l0] (st) M Q := w_sw mC_169 d169_1 (by decide +kernel)
theorem k169_1c106 {d : Nat} {l0 : Option PV} {st : List PV} {M : Mem} {Q : Option PV → Mem → Prop} : WP d 169 1 [l0] (vi 106 :: st) M Q = WP d 169 68 [l0] (st) M Q := w_sw mC_169 d169_1 (by decide +kernel)
theorem k169_1c107 {d : Nat} {l0 : Option PV} {st : List PV} {M : Mem} {Q : Option PV → Mem → Prop} : WP d 169 1 [l0] (vi 107 :: st) M Q = WP d 169 58 [l0] (st) M Q := w_sw mC_169 d169_1 (by decide +kernel)
theorem k169_1 {d : Nat} {l0 : Option PV} {st : List PV} {M : Mem} {Q : Option PV → Mem → Prop} {x : Int32} (h : x.toInt < 98 ∨ 107 < x.toInt) : WP d 169 1 [l0] (vi x :: st) M Q = WP d 169 68 [l0] (st) M Q := w_swd mC_169 d169_1 (by decide) h
theorem d169_56 : decode cX12_nameOf 56 = .ok (.iconst 0, 1) := by decide +kernel
theorem k169_56 {d : Nat} {l0 : Option PV} {st : List PV} {M : Mem} {Q : Option PV → Mem → Prop} : WP d 169 56 [l0] (st) M Q = WP d 169 57 [l0] (vi 0 :: st) M Q := w_iconst mC_169 d169_56 (by decide)
theorem d169_57 : decode cX12_nameOf 57 = .ok (.ireturn, 1) := by decide +kernel
theorem k169_57 {d : Nat} {l0 : Option PV} {M : Mem} {Q : Option PV → Mem → Prop} {x : Int32} : WP d 169 57 [l0] ([vi x]) M Q = Q (some (vi x)) M := w_iret mC_169 d169_57 rfl
theorem d169_58 : decode cX12_nameOf 58 = .ok (.iconst 1, 1) := by decide +kernel
theorem k169_58 {d : Nat} {l0 : Option PV} {st : List PV} {M : Mem} {Q : Option PV → Mem → Prop} : WP d 169 58 [l0] (st) M Q = WP d 169 59 [l0] (vi 1 :: st) M Q := w_iconst mC_169 d169_58 (by decide)
theorem d169_59 : decode cX12_nameOf 59 = .ok (.ireturn, 1) := by decide +kernel
theorem k169_59 {d : Nat} {l0 : Option PV} {M : Mem} {Q : Option PV → Mem → Prop} {x : Int32} : WP d 169 59 [l0] ([vi x]) M Q = Q (some (vi x)) M := w_iret mC_169 d169_59 rfl
theorem d169_60 : decode cX12_nameOf 60 = .ok (.iconst 2, 1) := by decide +kernel
theorem k169_60 {d : Nat} {l0 : Option PV} {st : List PV} {M : Mem} {Q : Option PV → Mem → Prop} : WP d 169 60 [l0] (st) M Q = WP d 169 61 [l0] (vi 2 :: st) M Q := w_iconst mC_169 d169_60 (by decide)
theorem d169_61 : decode cX12_nameOf 61 = .ok (.ireturn, 1) := by decide +kernel
theorem k169_61 {d : Nat} {l0 : Option PV} {M : Mem} {Q : Option PV → Mem → Prop} {x : Int32} : WP d 169 61 [l0] ([vi x]) M Q = Q (some (vi x)) M := w_iret mC_169 d169_61 rfl
theorem d169_62 : decode cX12_nameOf 62 = .ok (.iconst 3, 1) := by decide +kernel
theorem k169_62 {d : Nat} {l0 : Option PV} {st : List PV} {M : Mem} {Q : Option PV → Mem → Prop} : WP d 169 62 [l0] (st) M Q = WP d 169 63 [l0] (vi 3 :: st) M Q := w_iconst mC_169 d169_62 (by decide)
theorem d169_63 : decode cX12_nameOf 63 = .ok (.ireturn, 1) := by decide +kernel
theorem k169_63 {d : Nat} {l0 : Option PV} {M : Mem} {Q : Option PV → Mem → Prop} {x : Int32} : WP d 169 63 [l0] ([vi x]) M Q = Q (some (vi x)) M := w_iret mC_169 d169_63 rfl
theorem d169_64 : decode cX12_nameOf 64 = .ok (.iconst 4, 1) := by decide +kernel
theorem k169_64 {d : Nat} {l0 : Option PV} {st : List PV} {M : Mem} {Q : Option PV → Mem → Prop} : WP d 169 64 [l0] (st) M Q = WP d 169 65 [l0] (vi 4 :: st) M Q := w_iconst mC_169 d169_64 (by decide)
theorem d169_65 : decode cX12_nameOf 65 = .ok (.ireturn, 1) := by decide +kernel
theorem k169_65 {d : Nat} {l0 : Option PV} {M : Mem} {Q : Option PV → Mem → Prop} {x : Int32} : WP d 169 65 [l0] ([vi x]) M Q = Q (some (vi x)) M := w_iret mC_169 d169_65 rfl
theorem d169_66 : decode cX12_nameOf 66 = .ok (.iconst 5, 1) := by decide +kernel
theorem k169_66 {d : Nat} {l0 : Option PV} {st : List PV} {M : Mem} {Q : Option PV → Mem → Prop} : WP d 169 66 [l0] (st) M Q = WP d 169 67 [l0] (vi 5 :: st) M Q := w_iconst mC_169 d169_66 (by decide)
theorem d169_67 : decode cX12_nameOf 67 = .ok (.ireturn, 1) := by decide +kernel
theorem k169_67 {d : Nat} {l0 : Option PV} {M : Mem} {Q : Option PV → Mem → Prop} {x : Int32} : WP d 169 67 [l0] ([vi x]) M Q = Q (some (vi x)) M := w_iret mC_169 d169_67 rfl
theorem d169_68 : decode cX12_nameOf 68 = .ok (.iconst (-1), 1) := by decide +kernel
theorem k169_68 {d : Nat} {l0 : Option PV} {st : List PV} {M : Mem} {Q : Option PV → Mem → Prop} : WP d 169 68 [l0] (st) M Q = WP d 169 69 [l0] (vi (-1) :: st) M Q := w_iconst mC_169 d169_68 (by decide)
theorem d169_69 : decode cX12_nameOf 69 = .ok (.ireturn, 1) := by decide +kernel
theorem k169_69 {d : Nat} {l0 : Option PV} {M : Mem} {Q : Option PV → Mem → Prop} {x : Int32} : WP d 169 69 [l0] ([vi x]) M Q = Q (some (vi x)) M := w_iret mC_169 d169_69 rfl
theorem d170_0 : decode cX12_isO 0 = .ok (.aload_n 0, 1) := by decide +kernel
theorem k170_0 {d x : Nat} {l1 l2 : Option PV} {st : List PV} {M : Mem} {Q : Option PV → Mem → Prop} : WP d 170 0 [some (vr x), l1, l2] (st) M Q = WP d 170 1 [some (vr x), l1, l2] (vr x :: st) M Q := w1 mC_170 d170_0 rfl rfl
theorem d170_1 : decode cX12_isO 1 = .ok (.invokevirtual 171, 3) := by decide +kernel
theorem k170_1 {d : Nat} {l0 l1 l2 : Option PV} {st : List PV} {M : Mem} {Q : Option PV → Mem → Prop} {r : Nat} (hl : szL st ≤ 8) (hk : mK M r = 12) : WP (d + 1) 170 1 [l0, l1, l2] (vr r :: st) M Q = WP d 168 0 [some (vr r)] [] M (fun v M' => WP (d + 1) 170 4 [l0, l1, l2] (psh v st) M' Q) := w_callV mC_170 d170_1 (ci := 12) rfl rfl rfl (Nat.le_of_ble_eq_true rfl) (by decide) rfl hl hk
theorem d170_4 : decode cX12_isO 4 = .ok (.ifCond .eq 62, 3) := by decide +kernel
theorem k170_4 {d : Nat} {l0 l1 l2 : Option PV} {st : List PV} {M : Mem} {Q : Option PV → Mem → Prop} {x : Int32} : WP d 170 4 [l0, l1, l2] (vi x :: st) M Q = (if x = 0 then WP d 170 66 [l0, l1, l2] (st) M Q else WP d 170 7 [l0, l1, l2] (st) M Q) := w_if_eq mC_170 d170_4 (by decide)
theorem d170_7 : decode cX12_isO 7 = .ok (.iconst 0, 1) := by decide +kernel
theorem k170_7 {d : Nat} {l0 l1 l2 : Option PV} {st : List PV} {M : Mem} {Q : Option PV → Mem → Prop} : WP d 170 7 [l0, l1, l2] (st) M Q = WP d 170 8 [l0, l1, l2] (vi 0 :: st) M Q := w_iconst mC_170 d170_7 (by decide)
theorem d170_8 : decode cX12_isO 8 = .ok (.istore_n 1, 1) := by decide +kernel
theorem k170_8 {d : Nat} {l0 l1 l2 : Option PV} {st : List PV} {M : Mem} {Q : Option PV → Mem → Prop} {x : Int32} : WP d 170 8 [l0, l1, l2] (vi x :: st) M Q = WP d 170 9 [l0, some (vi x), l2] (st) M Q := w1 mC_170 d170_8 rfl rfl
theorem d170_9 : decode cX12_isO 9 = .ok (.iconst 0, 1) := by decide +kernel
theorem k170_9 {d : Nat} {l0 l1 l2 : Option PV} {st : List PV} {M : Mem} {Q : Option PV → Mem → Prop} : WP d 170 9 [l0, l1, l2] (st) M Q = WP d 170 10 [l0, l1, l2] (vi 0 :: st) M Q := w_iconst mC_170 d170_9 (by decide)
theorem d170_10 : decode cX12_isO 10 = .ok (.istore_n 2, 1) := by decide +kernel
theorem k170_10 {d : Nat} {l0 l1 l2 : Option PV} {st : List PV} {M : Mem} {Q : Option PV → Mem → Prop} {x : Int32} : WP d 170 10 [l0, l1, l2] (vi x :: st) M Q = WP d 170 11 [l0, l1, some (vi x)] (st) M Q := w1 mC_170 d170_10 rfl rfl
theorem d170_11 : decode cX12_isO 11 = .ok (.iload_n 2, 1) := by decide +kernel
theorem k170_11 {d : Nat} {x : Int32} {l0 l1 : Option PV} {st : List PV} {M : Mem} {Q : Option PV → Mem → Prop} : WP d 170 11 [l0, l1, some (vi x)] (st) M Q = WP d 170 12 [l0, l1, some (vi x)] (vi x :: st) M Q := w1 mC_170 d170_11 rfl rfl
theorem d170_12 : decode cX12_isO 12 = .ok (.iconst 4, 1) := by decide +kernel
theorem k170_12 {d : Nat} {l0 l1 l2 : Option PV} {st : List PV} {M : Mem} {Q : Option PV → Mem → Prop} : WP d 170 12 [l0, l1, l2] (st) M Q = WP d 170 13 [l0, l1, l2] (vi 4 :: st) M Q := w_iconst mC_170 d170_12 (by decide)
theorem d170_13 : decode cX12_isO 13 = .ok (.if_icmp .ge 44, 3) := by decide +kernel
theorem k170_13 {d : Nat} {l0 l1 l2 : Option PV} {st : List PV} {M : Mem} {Q : Option PV → Mem → Prop} {x y : Int32} : WP d 170 13 [l0, l1, l2] (vi y :: vi x :: st) M Q = (if y ≤ x then WP d 170 57 [l0, l1, l2] (st) M Q else WP d 170 16 [l0, l1, l2] (st) M Q) := w_ic_ge mC_170 d170_13 (by decide)
theorem d170_16 : decode cX12_isO 16 = .ok (.aload_n 0, 1) := by decide +kernel
theorem k170_16 {d x : Nat} {l1 l2 : Option PV} {st : List PV} {M : Mem} {Q : Option PV → Mem → Prop} : WP d 170 16 [some (vr x), l1, l2] (st) M Q = WP d 170 17 [some (vr x), l1, l2] (vr x :: st) M Q := w1 mC_170 d170_16 rfl rfl
theorem d170_17 : decode cX12_isO 17 = .ok (.invokevirtual 171, 3) := by decide +kernel
theorem k170_17 {d : Nat} {l0 l1 l2 : Option PV} {st : List PV} {M : Mem} {Q : Option PV → Mem → Prop} {r : Nat} (hl : szL st ≤ 8) (hk : mK M r = 12) : WP (d + 1) 170 17 [l0, l1, l2] (vr r :: st) M Q = WP d 168 0 [some (vr r)] [] M (fun v M' => WP (d + 1) 170 20 [l0, l1, l2] (psh v st) M' Q) := w_callV mC_170 d170_17 (ci := 12) rfl rfl rfl (Nat.le_of_ble_eq_true rfl) (by decide) rfl hl hk
theorem d170_20 : decode cX12_isO 20 = .ok (.ifCond .eq 37, 3) := by decide +kernel
theorem k170_20 {d : Nat} {l0 l1 l2 : Option PV} {st : List PV} {M : Mem} {Q : Option PV → Mem → Prop} {x : Int32} : WP d 170 20 [l0, l1, l2] (vi x :: st) M Q = (if x = 0 then WP d 170 57 [l0, l1, l2] (st) M Q else WP d 170 23 [l0, l1, l2] (st) M Q) := w_if_eq mC_170 d170_20 (by decide)
theorem d170_23 : decode cX12_isO 23 = .ok (.bipush 10, 2) := by decide +kernel
theorem k170_23 {d : Nat} {l0 l1 l2 : Option PV} {st : List PV} {M : Mem} {Q : Option PV → Mem → Prop} : WP d 170 23 [l0, l1, l2] (st) M Q = WP d 170 25 [l0, l1, l2] (vi 10 :: st) M Q := w_bipush mC_170 d170_23 (by decide)
theorem d170_25 : decode cX12_isO 25 = .ok (.iload_n 1, 1) := by decide +kernel
theorem k170_25 {d : Nat} {x : Int32} {l0 l2 : Option PV} {st : List PV} {M : Mem} {Q : Option PV → Mem → Prop} : WP d 170 25 [l0, some (vi x), l2] (st) M Q = WP d 170 26 [l0, some (vi x), l2] (vi x :: st) M Q := w1 mC_170 d170_25 rfl rfl
theorem d170_26 : decode cX12_isO 26 = .ok (.imul, 1) := by decide +kernel
theorem k170_26 {d : Nat} {l0 l1 l2 : Option PV} {st : List PV} {M : Mem} {Q : Option PV → Mem → Prop} {x y : Int32} : WP d 170 26 [l0, l1, l2] (vi y :: vi x :: st) M Q = WP d 170 27 [l0, l1, l2] (vi (x * y) :: st) M Q := w1 mC_170 d170_26 rfl rfl
theorem d170_27 : decode cX12_isO 27 = .ok (.aload_n 0, 1) := by decide +kernel
theorem k170_27 {d x : Nat} {l1 l2 : Option PV} {st : List PV} {M : Mem} {Q : Option PV → Mem → Prop} : WP d 170 27 [some (vr x), l1, l2] (st) M Q = WP d 170 28 [some (vr x), l1, l2] (vr x :: st) M Q := w1 mC_170 d170_27 rfl rfl
theorem d170_28 : decode cX12_isO 28 = .ok (.getfield 18, 3) := by decide +kernel
theorem k170_28 {d : Nat} {l0 l1 l2 : Option PV} {st : List PV} {M : Mem} {Q : Option PV → Mem → Prop} {r : Nat} (hk : mK M r = 12) : WP d 170 28 [l0, l1, l2] (vr r :: st) M Q = WP d 170 31 [l0, l1, l2] (vr (mR M r 5) :: st) M Q := w_getr mC_170 d170_28 fE_12_18 rfl (by rw [hk]; rfl)
theorem d170_31 : decode cX12_isO 31 = .ok (.aload_n 0, 1) := by decide +kernel
theorem k170_31 {d x : Nat} {l1 l2 : Option PV} {st : List PV} {M : Mem} {Q : Option PV → Mem → Prop} : WP d 170 31 [some (vr x), l1, l2] (st) M Q = WP d 170 32 [some (vr x), l1, l2] (vr x :: st) M Q := w1 mC_170 d170_31 rfl rfl
theorem d170_32 : decode cX12_isO 32 = .ok (.getfield 161, 3) := by decide +kernel
theorem k170_32 {d : Nat} {l0 l1 l2 : Option PV} {st : List PV} {M : Mem} {Q : Option PV → Mem → Prop} {r : Nat} (hk : mK M r = 12) : WP d 170 32 [l0, l1, l2] (vr r :: st) M Q = WP d 170 35 [l0, l1, l2] (vi (mI M r 12) :: st) M Q := w_get mC_170 d170_32 fE_12_161 rfl (by rw [hk]; rfl)
theorem d170_35 : decode cX12_isO 35 = .ok (.iaload, 1) := by decide +kernel
theorem k170_35 {d : Nat} {l0 l1 l2 : Option PV} {st : List PV} {M : Mem} {Q : Option PV → Mem → Prop} {r : Nat} {j : Int32} (hk : mK M r = 13) (hj : inb j (mN M r)) (h1 : r ≠ 1) : WP d 170 35 [l0, l1, l2] (vi j :: vr r :: st) M Q = WP d 170 36 [l0, l1, l2] (vi (mI M r (ix j)) :: st) M Q := w_iald mC_170 d170_35 (by decide) hk hj h1
theorem d170_36 : decode cX12_isO 36 = .ok (.iadd, 1) := by decide +kernel
theorem k170_36 {d : Nat} {l0 l1 l2 : Option PV} {st : List PV} {M : Mem} {Q : Option PV → Mem → Prop} {x y : Int32} : WP d 170 36 [l0, l1, l2] (vi y :: vi x :: st) M Q = WP d 170 37 [l0, l1, l2] (vi (x + y) :: st) M Q := w1 mC_170 d170_36 rfl rfl
theorem d170_37 : decode cX12_isO 37 = .ok (.bipush 48, 2) := by decide +kernel
theorem k170_37 {d : Nat} {l0 l1 l2 : Option PV} {st : List PV} {M : Mem} {Q : Option PV → Mem → Prop} : WP d 170 37 [l0, l1, l2] (st) M Q = WP d 170 39 [l0, l1, l2] (vi 48 :: st) M Q := w_bipush mC_170 d170_37 (by decide)
theorem d170_39 : decode cX12_isO 39 = .ok (.isub, 1) := by decide +kernel
theorem k170_39 {d : Nat} {l0 l1 l2 : Option PV} {st : List PV} {M : Mem} {Q : Option PV → Mem → Prop} {x y : Int32} : WP d 170 39 [l0, l1, l2] (vi y :: vi x :: st) M Q = WP d 170 40 [l0, l1, l2] (vi (x - y) :: st) M Q := w1 mC_170 d170_39 rfl rfl
theorem d170_40 : decode cX12_isO 40 = .ok (.istore_n 1, 1) := by decide +kernel
theorem k170_40 {d : Nat} {l0 l1 l2 : Option PV} {st : List PV} {M : Mem} {Q : Option PV → Mem → Prop} {x : Int32} : WP d 170 40 [l0, l1, l2] (vi x :: st) M Q = WP d 170 41 [l0, some (vi x), l2] (st) M Q := w1 mC_170 d170_40 rfl rfl
theorem d170_41 : decode cX12_isO 41 = .ok (.aload_n 0, 1) := by decide +kernel
theorem k170_41 {d x : Nat} {l1 l2 : Option PV} {st : List PV} {M : Mem} {Q : Option PV → Mem → Prop} : WP d 170 41 [some (vr x), l1, l2] (st) M Q = WP d 170 42 [some (vr x), l1, l2] (vr x :: st) M Q := w1 mC_170 d170_41 rfl rfl
theorem d170_42 : decode cX12_isO 42 = .ok (.dup, 1) := by decide +kernel
theorem k170_42 {d : Nat} {l0 l1 l2 : Option PV} {st : List PV} {M : Mem} {Q : Option PV → Mem → Prop} {x : Nat} : WP d 170 42 [l0, l1, l2] (vr x :: st) M Q = WP d 170 43 [l0, l1, l2] (vr x :: vr x :: st) M Q := w1 mC_170 d170_42 rfl rfl
theorem k170_42i {d : Nat} {l0 l1 l2 : Option PV} {st : List PV} {M : Mem} {Q : Option PV → Mem → Prop} {x : Int32} : WP d 170 42 [l0, l1, l2] (vi x :: st) M Q = WP d 170 43 [l0, l1, l2] (vi x :: vi x :: st) M Q := w1 mC_170 d170_42 rfl rfl
theorem d170_43 : decode cX12_isO 43 = .ok (.getfield 161, 3) := by decide +kernel
theorem k170_43 {d : Nat} {l0 l1 l2 : Option PV} {st : List PV} {M : Mem} {Q : Option PV → Mem → Prop} {r : Nat} (hk : mK M r = 12) : WP d 170 43 [l0, l1, l2] (vr r :: st) M Q = WP d 170 46 [l0, l1, l2] (vi (mI M r 12) :: st) M Q := w_get mC_170 d170_43 fE_12_161 rfl (by rw [hk]; rfl)
theorem d170_46 : decode cX12_isO 46 = .ok (.iconst 1, 1) := by decide +kernel
theorem k170_46 {d : Nat} {l0 l1 l2 : Option PV} {st : List PV} {M : Mem} {Q : Option PV → Mem → Prop} : WP d 170 46 [l0, l1, l2] (st) M Q = WP d 170 47 [l0, l1, l2] (vi 1 :: st) M Q := w_iconst mC_170 d170_46 (by decide)
theorem d170_47 : decode cX12_isO 47 = .ok (.iadd, 1) := by decide +kernel
theorem k170_47 {d : Nat} {l0 l1 l2 : Option PV} {st : List PV} {M : Mem} {Q : Option PV → Mem → Prop} {x y : Int32} : WP d 170 47 [l0, l1, l2] (vi y :: vi x :: st) M Q = WP d 170 48 [l0, l1, l2] (vi (x + y) :: st) M Q := w1 mC_170 d170_47 rfl rfl
theorem d170_48 : decode cX12_isO 48 = .ok (.putfield 161, 3) := by decide +kernel
theorem k170_48 {d : Nat} {l0 l1 l2 : Option PV} {st : List PV} {M : Mem} {Q : Option PV → Mem → Prop} {r : Nat} {x : Int32} (hk : mK M r = 12) : WP d 170 48 [l0, l1, l2] (vi x :: vr r :: st) M Q = WP d 170 51 [l0, l1, l2] (st) (sI M r 12 x) Q := w_put mC_170 d170_48 fE_12_161 (by decide +kernel) (by rw [hk]; rfl)
theorem d170_51 : decode cX12_isO 51 = .ok (.iinc 2 1, 3) := by decide +kernel
theorem k170_51 {d : Nat} {x : Int32} {l0 l1 : Option PV} {st : List PV} {M : Mem} {Q : Option PV → Mem → Prop} : WP d 170 51 [l0, l1, some (vi x)] (st) M Q = WP d 170 54 [l0, l1, some (vi (x + 1))] (st) M Q := w_iinc mC_170 d170_51 rfl (by decide) rfl
theorem d170_54 : decode cX12_isO 54 = .ok (.goto (-43), 3) := by decide +kernel
theorem k170_54 {d : Nat} {l0 l1 l2 : Option PV} {st : List PV} {M : Mem} {Q : Option PV → Mem → Prop} : WP d 170 54 [l0, l1, l2] (st) M Q = WP d 170 11 [l0, l1, l2] (st) M Q := w_goto mC_170 d170_54 (by decide)
theorem d170_57 : decode cX12_isO 57 = .ok (.aload_n 0, 1) := by decide +kernel
theorem k170_57 {d x : Nat} {l1 l2 : Option PV} {st : List PV} {M : Mem} {Q : Option PV → Mem → Prop} : WP d 170 57 [some (vr x), l1, l2] (st) M Q = WP d 170 58 [some (vr x), l1, l2] (vr x :: st) M Q := w1 mC_170 d170_57 rfl rfl
theorem d170_58 : decode cX12_isO 58 = .ok (.bipush 18, 2) := by decide +kernel
theorem k170_58 {d : Nat} {l0 l1 l2 : Option PV} {st : List PV} {M : Mem} {Q : Option PV → Mem → Prop} : WP d 170 58 [l0, l1, l2] (st) M Q = WP d 170 60 [l0, l1, l2] (vi 18 :: st) M Q := w_bipush mC_170 d170_58 (by decide)
theorem d170_60 : decode cX12_isO 60 = .ok (.iload_n 1, 1) := by decide +kernel
theorem k170_60 {d : Nat} {x : Int32} {l0 l2 : Option PV} {st : List PV} {M : Mem} {Q : Option PV → Mem → Prop} : WP d 170 60 [l0, some (vi x), l2] (st) M Q = WP d 170 61 [l0, some (vi x), l2] (vi x :: st) M Q := w1 mC_170 d170_60 rfl rfl
theorem d170_61 : decode cX12_isO 61 = .ok (.iadd, 1) := by decide +kernel
theorem k170_61 {d : Nat} {l0 l1 l2 : Option PV} {st : List PV} {M : Mem} {Q : Option PV → Mem → Prop} {x y : Int32} : WP d 170 61 [l0, l1, l2] (vi y :: vi x :: st) M Q = WP d 170 62 [l0, l1, l2] (vi (x + y) :: st) M Q := w1 mC_170 d170_61 rfl rfl
theorem d170_62 : decode cX12_isO 62 = .ok (.invokevirtual 175, 3) := by decide +kernel
theorem k170_62 {d : Nat} {l0 l1 l2 : Option PV} {st : List PV} {M : Mem} {Q : Option PV → Mem → Prop} {a0 : Int32} {r : Nat} (hl : szL st ≤ 8) (hk : mK M r = 12) : WP (d + 1) 170 62 [l0, l1, l2] (vi a0 :: vr r :: st) M Q = WP d 167 0 [some (vr r), some (vi a0)] [] M (fun v M' => WP (d + 1) 170 65 [l0, l1, l2] (psh v st) M' Q) := w_callV mC_170 d170_62 (ci := 12) rfl rfl rfl (Nat.le_of_ble_eq_true rfl) (by decide) rfl hl hk
theorem d170_65 : decode cX12_isO 65 = .ok (.ireturn, 1) := by decide +kernel
theorem k170_65 {d : Nat} {l0 l1 l2 : Option PV} {M : Mem} {Q : Option PV → Mem → Prop} {x : Int32} (hx : x = 0 ∨ x = 1) : WP d 170 65 [l0, l1, l2] ([vi x]) M Q = Q (some (vi x)) M := w_zret mC_170 d170_65 rfl hx
theorem d170_66 : decode cX12_isO 66 = .ok (.aload_n 0, 1) := by decide +kernel
theorem k170_66 {d x : Nat} {l1 l2 : Option PV} {st : List PV} {M : Mem} {Q : Option PV → Mem → Prop} : WP d 170 66 [some (vr x), l1, l2] (st) M Q = WP d 170 67 [some (vr x), l1, l2] (vr x :: st) M Q := w1 mC_170 d170_66 rfl rfl
theorem d170_67 : decode cX12_isO 67 = .ok (.invokevirtual 164, 3) := by decide +kernel
theorem k170_67 {d : Nat} {l0 l1 l2 : Option PV} {st : List PV} {M : Mem} {Q : Option PV → Mem → Prop} {r : Nat} (hl : szL st ≤ 8) (hk : mK M r = 12) : WP (d + 1) 170 67 [l0, l1, l2] (vr r :: st) M Q = WP d 165 0 [some (vr r)] [] M (fun v M' => WP (d + 1) 170 70 [l0, l1, l2] (psh v st) M' Q) := w_callV mC_170 d170_67 (ci := 12) rfl rfl rfl (Nat.le_of_ble_eq_true rfl) (by decide) rfl hl hk
theorem d170_70 : decode cX12_isO 70 = .ok (.invokestatic 178, 3) := by decide +kernel
theorem k170_70 {d : Nat} {l0 l1 l2 : Option PV} {st : List PV} {M : Mem} {Q : Option PV → Mem → Prop} {a0 : Int32} (hl : szL st ≤ 8) : WP (d + 1) 170 70 [l0, l1, l2] (vi a0 :: st) M Q = WP d 169 0 [some (vi a0)] [] M (fun v M' => WP (d + 1) 170 73 [l0, l1, l2] (psh v st) M' Q) := w_callS mC_170 d170_70 rfl rfl (Nat.le_of_ble_eq_true rfl) (by decide) rfl hl
theorem d170_73 : decode cX12_isO 73 = .ok (.istore_n 1, 1) := by decide +kernel
theorem k170_73 {d : Nat} {l0 l1 l2 : Option PV} {st : List PV} {M : Mem} {Q : Option PV → Mem → Prop} {x : Int32} : WP d 170 73 [l0, l1, l2] (vi x :: st) M Q = WP d 170 74 [l0, some (vi x), l2] (st) M Q := w1 mC_170 d170_73 rfl rfl
theorem d170_74 : decode cX12_isO 74 = .ok (.iload_n 1, 1) := by decide +kernel
theorem k170_74 {d : Nat} {x : Int32} {l0 l2 : Option PV} {st : List PV} {M : Mem} {Q : Option PV → Mem → Prop} : WP d 170 74 [l0, some (vi x), l2] (st) M Q = WP d 170 75 [l0, some (vi x), l2] (vi x :: st) M Q := w1 mC_170 d170_74 rfl rfl
theorem d170_75 : decode cX12_isO 75 = .ok (.ifCond .lt 19, 3) := by decide +kernel
theorem k170_75 {d : Nat} {l0 l1 l2 : Option PV} {st : List PV} {M : Mem} {Q : Option PV → Mem → Prop} {x : Int32} : WP d 170 75 [l0, l1, l2] (vi x :: st) M Q = (if x < 0 then WP d 170 94 [l0, l1, l2] (st) M Q else WP d 170 78 [l0, l1, l2] (st) M Q) := w_if_lt mC_170 d170_75 (by decide)
theorem d170_78 : decode cX12_isO 78 = .ok (.aload_n 0, 1) := by decide +kernel
theorem k170_78 {d x : Nat} {l1 l2 : Option PV} {st : List PV} {M : Mem} {Q : Option PV → Mem → Prop} : WP d 170 78 [some (vr x), l1, l2] (st) M Q = WP d 170 79 [some (vr x), l1, l2] (vr x :: st) M Q := w1 mC_170 d170_78 rfl rfl
theorem d170_79 : decode cX12_isO 79 = .ok (.dup, 1) := by decide +kernel
theorem k170_79 {d : Nat} {l0 l1 l2 : Option PV} {st : List PV} {M : Mem} {Q : Option PV → Mem → Prop} {x : Nat} : WP d 170 79 [l0, l1, l2] (vr x :: st) M Q = WP d 170 80 [l0, l1, l2] (vr x :: vr x :: st) M Q := w1 mC_170 d170_79 rfl rfl
theorem k170_79i {d : Nat} {l0 l1 l2 : Option PV} {st : List PV} {M : Mem} {Q : Option PV → Mem → Prop} {x : Int32} : WP d 170 79 [l0, l1, l2] (vi x :: st) M Q = WP d 170 80 [l0, l1, l2] (vi x :: vi x :: st) M Q := w1 mC_170 d170_79 rfl rfl
theorem d170_80 : decode cX12_isO 80 = .ok (.getfield 161, 3) := by decide +kernel
theorem k170_80 {d : Nat} {l0 l1 l2 : Option PV} {st : List PV} {M : Mem} {Q : Option PV → Mem → Prop} {r : Nat} (hk : mK M r = 12) : WP d 170 80 [l0, l1, l2] (vr r :: st) M Q = WP d 170 83 [l0, l1, l2] (vi (mI M r 12) :: st) M Q := w_get mC_170 d170_80 fE_12_161 rfl (by rw [hk]; rfl)
theorem d170_83 : decode cX12_isO 83 = .ok (.iconst 1, 1) := by decide +kernel
theorem k170_83 {d : Nat} {l0 l1 l2 : Option PV} {st : List PV} {M : Mem} {Q : Option PV → Mem → Prop} : WP d 170 83 [l0, l1, l2] (st) M Q = WP d 170 84 [l0, l1, l2] (vi 1 :: st) M Q := w_iconst mC_170 d170_83 (by decide)
theorem d170_84 : decode cX12_isO 84 = .ok (.iadd, 1) := by decide +kernel
theorem k170_84 {d : Nat} {l0 l1 l2 : Option PV} {st : List PV} {M : Mem} {Q : Option PV → Mem → Prop} {x y : Int32} : WP d 170 84 [l0, l1, l2] (vi y :: vi x :: st) M Q = WP d 170 85 [l0, l1, l2] (vi (x + y) :: st) M Q := w1 mC_170 d170_84 rfl rfl
theorem d170_85 : decode cX12_isO 85 = .ok (.putfield 161, 3) := by decide +kernel
theorem k170_85 {d : Nat} {l0 l1 l2 : Option PV} {st : List PV} {M : Mem} {Q : Option PV → Mem → Prop} {r : Nat} {x : Int32} (hk : mK M r = 12) : WP d 170 85 [l0, l1, l2] (vi x :: vr r :: st) M Q = WP d 170 88 [l0, l1, l2] (st) (sI M r 12 x) Q := w_put mC_170 d170_85 fE_12_161 (by decide +kernel) (by rw [hk]; rfl)
theorem d170_88 : decode cX12_isO 88 = .ok (.aload_n 0, 1) := by decide +kernel
theorem k170_88 {d x : Nat} {l1 l2 : Option PV} {st : List PV} {M : Mem} {Q : Option PV → Mem → Prop} : WP d 170 88 [some (vr x), l1, l2] (st) M Q = WP d 170 89 [some (vr x), l1, l2] (vr x :: st) M Q := w1 mC_170 d170_88 rfl rfl
theorem d170_89 : decode cX12_isO 89 = .ok (.iload_n 1, 1) := by decide +kernel
theorem k170_89 {d : Nat} {x : Int32} {l0 l2 : Option PV} {st : List PV} {M : Mem} {Q : Option PV → Mem → Prop} : WP d 170 89 [l0, some (vi x), l2] (st) M Q = WP d 170 90 [l0, some (vi x), l2] (vi x :: st) M Q := w1 mC_170 d170_89 rfl rfl
theorem d170_90 : decode cX12_isO 90 = .ok (.invokevirtual 175, 3) := by decide +kernel
theorem k170_90 {d : Nat} {l0 l1 l2 : Option PV} {st : List PV} {M : Mem} {Q : Option PV → Mem → Prop} {a0 : Int32} {r : Nat} (hl : szL st ≤ 8) (hk : mK M r = 12) : WP (d + 1) 170 90 [l0, l1, l2] (vi a0 :: vr r :: st) M Q = WP d 167 0 [some (vr r), some (vi a0)] [] M (fun v M' => WP (d + 1) 170 93 [l0, l1, l2] (psh v st) M' Q) := w_callV mC_170 d170_90 (ci := 12) rfl rfl rfl (Nat.le_of_ble_eq_true rfl) (by decide) rfl hl hk
theorem d170_93 : decode cX12_isO 93 = .ok (.ireturn, 1) := by decide +kernel
theorem k170_93 {d : Nat} {l0 l1 l2 : Option PV} {M : Mem} {Q : Option PV → Mem → Prop} {x : Int32} (hx : x = 0 ∨ x = 1) : WP d 170 93 [l0, l1, l2] ([vi x]) M Q = Q (some (vi x)) M := w_zret mC_170 d170_93 rfl hx
theorem d170_94 : decode cX12_isO 94 = .ok (.aload_n 0, 1) := by decide +kernel
theorem k170_94 {d x : Nat} {l1 l2 : Option PV} {st : List PV} {M : Mem} {Q : Option PV → Mem → Prop} : WP d 170 94 [some (vr x), l1, l2] (st) M Q = WP d 170 95 [some (vr x), l1, l2] (vr x :: st) M Q := w1 mC_170 d170_94 rfl rfl
theorem d170_95 : decode cX12_isO 95 = .ok (.getfield 182, 3) := by decide +kernel
theorem k170_95 {d : Nat} {l0 l1 l2 : Option PV} {st : List PV} {M : Mem} {Q : Option PV → Mem → Prop} {r : Nat} (hk : mK M r = 12) : WP d 170 95 [l0, l1, l2] (vr r :: st) M Q = WP d 170 98 [l0, l1, l2] (vi (mI M r 13) :: st) M Q := w_get mC_170 d170_95 fE_12_182 rfl (by rw [hk]; rfl)
theorem d170_98 : decode cX12_isO 98 = .ok (.bipush 6, 2) := by decide +kernel
theorem k170_98 {d : Nat} {l0 l1 l2 : Option PV} {st : List PV} {M : Mem} {Q : Option PV → Mem → Prop} : WP d 170 98 [l0, l1, l2] (st) M Q = WP d 170 100 [l0, l1, l2] (vi 6 :: st) M Q := w_bipush mC_170 d170_98 (by decide)
theorem d170_100 : decode cX12_isO 100 = .ok (.if_icmp .ne 5, 3) := by decide +kernel
theorem k170_100 {d : Nat} {l0 l1 l2 : Option PV} {st : List PV} {M : Mem} {Q : Option PV → Mem → Prop} {x y : Int32} : WP d 170 100 [l0, l1, l2] (vi y :: vi x :: st) M Q = (if x = y then WP d 170 103 [l0, l1, l2] (st) M Q else WP d 170 105 [l0, l1, l2] (st) M Q) := w_ic_ne mC_170 d170_100 (by decide)
theorem d170_103 : decode cX12_isO 103 = .ok (.iconst 0, 1) := by decide +kernel
theorem k170_103 {d : Nat} {l0 l1 l2 : Option PV} {st : List PV} {M : Mem} {Q : Option PV → Mem → Prop} : WP d 170 103 [l0, l1, l2] (st) M Q = WP d 170 104 [l0, l1, l2] (vi 0 :: st) M Q := w_iconst mC_170 d170_103 (by decide)
theorem d170_104 : decode cX12_isO 104 = .ok (.ireturn, 1) := by decide +kernel
theorem k170_104 {d : Nat} {l0 l1 l2 : Option PV} {M : Mem} {Q : Option PV → Mem → Prop} {x : Int32} (hx : x = 0 ∨ x = 1) : WP d 170 104 [l0, l1, l2] ([vi x]) M Q = Q (some (vi x)) M := w_zret mC_170 d170_104 rfl hx
theorem d170_105 : decode cX12_isO 105 = .ok (.aload_n 0, 1) := by decide +kernel
theorem k170_105 {d x : Nat} {l1 l2 : Option PV} {st : List PV} {M : Mem} {Q : Option PV → Mem → Prop} : WP d 170 105 [some (vr x), l1, l2] (st) M Q = WP d 170 106 [some (vr x), l1, l2] (vr x :: st) M Q := w1 mC_170 d170_105 rfl rfl
theorem d170_106 : decode cX12_isO 106 = .ok (.dup, 1) := by decide +kernel
theorem k170_106 {d : Nat} {l0 l1 l2 : Option PV} {st : List PV} {M : Mem} {Q : Option PV → Mem → Prop} {x : Nat} : WP d 170 106 [l0, l1, l2] (vr x :: st) M Q = WP d 170 107 [l0, l1, l2] (vr x :: vr x :: st) M Q := w1 mC_170 d170_106 rfl rfl
theorem k170_106i {d : Nat} {l0 l1 l2 : Option PV} {st : List PV} {M : Mem} {Q : Option PV → Mem → Prop} {x : Int32} : WP d 170 106 [l0, l1, l2] (vi x :: st) M Q = WP d 170 107 [l0, l1, l2] (vi x :: vi x :: st) M Q := w1 mC_170 d170_106 rfl rfl
theorem d170_107 : decode cX12_isO 107 = .ok (.getfield 182, 3) := by decide +kernel
theorem k170_107 {d : Nat} {l0 l1 l2 : Option PV} {st : List PV} {M : Mem} {Q : Option PV → Mem → Prop} {r : Nat} (hk : mK M r = 12) : WP d 170 107 [l0, l1, l2] (vr r :: st) M Q = WP d 170 110 [l0, l1, l2] (vi (mI M r 13) :: st) M Q := w_get mC_170 d170_107 fE_12_182 rfl (by rw [hk]; rfl)
theorem d170_110 : decode cX12_isO 110 = .ok (.iconst 1, 1) := by decide +kernel
theorem k170_110 {d : Nat} {l0 l1 l2 : Option PV} {st : List PV} {M : Mem} {Q : Option PV → Mem → Prop} : WP d 170 110 [l0, l1, l2] (st) M Q = WP d 170 111 [l0, l1, l2] (vi 1 :: st) M Q := w_iconst mC_170 d170_110 (by decide)
theorem d170_111 : decode cX12_isO 111 = .ok (.iadd, 1) := by decide +kernel
theorem k170_111 {d : Nat} {l0 l1 l2 : Option PV} {st : List PV} {M : Mem} {Q : Option PV → Mem → Prop} {x y : Int32} : WP d 170 111 [l0, l1, l2] (vi y :: vi x :: st) M Q = WP d 170 112 [l0, l1, l2] (vi (x + y) :: st) M Q := w1 mC_170 d170_111 rfl rfl
theorem d170_112 : decode cX12_isO 112 = .ok (.putfield 182, 3) := by decide +kernel
theorem k170_112 {d : Nat} {l0 l1 l2 : Option PV} {st : List PV} {M : Mem} {Q : Option PV → Mem → Prop} {r : Nat} {x : Int32} (hk : mK M r = 12) : WP d 170 112 [l0, l1, l2] (vi x :: vr r :: st) M Q = WP d 170 115 [l0, l1, l2] (st) (sI M r 13 x) Q := w_put mC_170 d170_112 fE_12_182 (by decide +kernel) (by rw [hk]; rfl)
theorem d170_115 : decode cX12_isO 115 = .ok (.aload_n 0, 1) := by decide +kernel
theorem k170_115 {d x : Nat} {l1 l2 : Option PV} {st : List PV} {M : Mem} {Q : Option PV → Mem → Prop} : WP d 170 115 [some (vr x), l1, l2] (st) M Q = WP d 170 116 [some (vr x), l1, l2] (vr x :: st) M Q := w1 mC_170 d170_115 rfl rfl
theorem d170_116 : decode cX12_isO 116 = .ok (.bipush 33, 2) := by decide +kernel
theorem k170_116 {d : Nat} {l0 l1 l2 : Option PV} {st : List PV} {M : Mem} {Q : Option PV → Mem → Prop} : WP d 170 116 [l0, l1, l2] (st) M Q = WP d 170 118 [l0, l1, l2] (vi 33 :: st) M Q := w_bipush mC_170 d170_116 (by decide)
theorem d170_118 : decode cX12_isO 118 = .ok (.invokevirtual 185, 3) := by decide +kernel
theorem k170_118 {d : Nat} {l0 l1 l2 : Option PV} {st : List PV} {M : Mem} {Q : Option PV → Mem → Prop} {a0 : Int32} {r : Nat} (hl : szL st ≤ 8) (hk : mK M r = 12) : WP (d + 1) 170 118 [l0, l1, l2] (vi a0 :: vr r :: st) M Q = WP d 166 0 [some (vr r), some (vi a0)] [] M (fun v M' => WP (d + 1) 170 121 [l0, l1, l2] (psh v st) M' Q) := w_callV mC_170 d170_118 (ci := 12) rfl rfl rfl (Nat.le_of_ble_eq_true rfl) (by decide) rfl hl hk
theorem d170_121 : decode cX12_isO 121 = .ok (.ifCond .eq 28, 3) := by decide +kernel
theorem k170_121 {d : Nat} {l0 l1 l2 : Option PV} {st : List PV} {M : Mem} {Q : Option PV → Mem → Prop} {x : Int32} : WP d 170 121 [l0, l1, l2] (vi x :: st) M Q = (if x = 0 then WP d 170 149 [l0, l1, l2] (st) M Q else WP d 170 124 [l0, l1, l2] (st) M Q) := w_if_eq mC_170 d170_121 (by decide)
theorem d170_124 : decode cX12_isO 124 = .ok (.aload_n 0, 1) := by decide +kernel
theorem k170_124 {d x : Nat} {l1 l2 : Option PV} {st : List PV} {M : Mem} {Q : Option PV → Mem → Prop} : WP d 170 124 [some (vr x), l1, l2] (st) M Q = WP d 170 125 [some (vr x), l1, l2] (vr x :: st) M Q := w1 mC_170 d170_124 rfl rfl
theorem d170_125 : decode cX12_isO 125 = .ok (.invokevirtual 188, 3) := by decide +kernel
theorem k170_125 {d : Nat} {l0 l1 l2 : Option PV} {st : List PV} {M : Mem} {Q : Option PV → Mem → Prop} {r : Nat} (hl : szL st ≤ 8) (hk : mK M r = 12) : WP (d + 1) 170 125 [l0, l1, l2] (vr r :: st) M Q = WP d 170 0 [some (vr r), none, none] [] M (fun v M' => WP (d + 1) 170 128 [l0, l1, l2] (psh v st) M' Q) := w_callV mC_170 d170_125 (ci := 12) rfl rfl rfl (Nat.le_of_ble_eq_true rfl) (by decide) rfl hl hk
theorem d170_128 : decode cX12_isO 128 = .ok (.ifCond .eq 16, 3) := by decide +kernel
theorem k170_128 {d : Nat} {l0 l1 l2 : Option PV} {st : List PV} {M : Mem} {Q : Option PV → Mem → Prop} {x : Int32} : WP d 170 128 [l0, l1, l2] (vi x :: st) M Q = (if x = 0 then WP d 170 144 [l0, l1, l2] (st) M Q else WP d 170 131 [l0, l1, l2] (st) M Q) := w_if_eq mC_170 d170_128 (by decide)
theorem d170_131 : decode cX12_isO 131 = .ok (.aload_n 0, 1) := by decide +kernel
theorem k170_131 {d x : Nat} {l1 l2 : Option PV} {st : List PV} {M : Mem} {Q : Option PV → Mem → Prop} : WP d 170 131 [some (vr x), l1, l2] (st) M Q = WP d 170 132 [some (vr x), l1, l2] (vr x :: st) M Q := w1 mC_170 d170_131 rfl rfl
theorem d170_132 : decode cX12_isO 132 = .ok (.bipush 16, 2) := by decide +kernel
theorem k170_132 {d : Nat} {l0 l1 l2 : Option PV} {st : List PV} {M : Mem} {Q : Option PV → Mem → Prop} : WP d 170 132 [l0, l1, l2] (st) M Q = WP d 170 134 [l0, l1, l2] (vi 16 :: st) M Q := w_bipush mC_170 d170_132 (by decide)
theorem d170_134 : decode cX12_isO 134 = .ok (.invokevirtual 175, 3) := by decide +kernel
theorem k170_134 {d : Nat} {l0 l1 l2 : Option PV} {st : List PV} {M : Mem} {Q : Option PV → Mem → Prop} {a0 : Int32} {r : Nat} (hl : szL st ≤ 8) (hk : mK M r = 12) : WP (d + 1) 170 134 [l0, l1, l2] (vi a0 :: vr r :: st) M Q = WP d 167 0 [some (vr r), some (vi a0)] [] M (fun v M' => WP (d + 1) 170 137 [l0, l1, l2] (psh v st) M' Q) := w_callV mC_170 d170_134 (ci := 12) rfl rfl rfl (Nat.le_of_ble_eq_true rfl) (by decide) rfl hl hk
theorem d170_137 : decode cX12_isO 137 = .ok (.ifCond .eq 7, 3) := by decide +kernel
theorem k170_137 {d : Nat} {l0 l1 l2 : Option PV} {st : List PV} {M : Mem} {Q : Option PV → Mem → Prop} {x : Int32} : WP d 170 137 [l0, l1, l2] (vi x :: st) M Q = (if x = 0 then WP d 170 144 [l0, l1, l2] (st) M Q else WP d 170 140 [l0, l1, l2] (st) M Q) := w_if_eq mC_170 d170_137 (by decide)
theorem d170_140 : decode cX12_isO 140 = .ok (.iconst 1, 1) := by decide +kernel
theorem k170_140 {d : Nat} {l0 l1 l2 : Option PV} {st : List PV} {M : Mem} {Q : Option PV → Mem → Prop} : WP d 170 140 [l0, l1, l2] (st) M Q = WP d 170 141 [l0, l1, l2] (vi 1 :: st) M Q := w_iconst mC_170 d170_140 (by decide)
theorem d170_141 : decode cX12_isO 141 = .ok (.goto 4, 3) := by decide +kernel
theorem k170_141 {d : Nat} {l0 l1 l2 : Option PV} {st : List PV} {M : Mem} {Q : Option PV → Mem → Prop} : WP d 170 141 [l0, l1, l2] (st) M Q = WP d 170 145 [l0, l1, l2] (st) M Q := w_goto mC_170 d170_141 (by decide)
theorem d170_144 : decode cX12_isO 144 = .ok (.iconst 0, 1) := by decide +kernel
theorem k170_144 {d : Nat} {l0 l1 l2 : Option PV} {st : List PV} {M : Mem} {Q : Option PV → Mem → Prop} : WP d 170 144 [l0, l1, l2] (st) M Q = WP d 170 145 [l0, l1, l2] (vi 0 :: st) M Q := w_iconst mC_170 d170_144 (by decide)
theorem d170_145 : decode cX12_isO 145 = .ok (.istore_n 2, 1) := by decide +kernel
theorem k170_145 {d : Nat} {l0 l1 l2 : Option PV} {st : List PV} {M : Mem} {Q : Option PV → Mem → Prop} {x : Int32} : WP d 170 145 [l0, l1, l2] (vi x :: st) M Q = WP d 170 146 [l0, l1, some (vi x)] (st) M Q := w1 mC_170 d170_145 rfl rfl
theorem d170_146 : decode cX12_isO 146 = .ok (.goto 68, 3) := by decide +kernel
theorem k170_146 {d : Nat} {l0 l1 l2 : Option PV} {st : List PV} {M : Mem} {Q : Option PV → Mem → Prop} : WP d 170 146 [l0, l1, l2] (st) M Q = WP d 170 214 [l0, l1, l2] (st) M Q := w_goto mC_170 d170_146 (by decide)
theorem d170_149 : decode cX12_isO 149 = .ok (.aload_n 0, 1) := by decide +kernel
theorem k170_149 {d x : Nat} {l1 l2 : Option PV} {st : List PV} {M : Mem} {Q : Option PV → Mem → Prop} : WP d 170 149 [some (vr x), l1, l2] (st) M Q = WP d 170 150 [some (vr x), l1, l2] (vr x :: st) M Q := w1 mC_170 d170_149 rfl rfl
theorem d170_150 : decode cX12_isO 150 = .ok (.bipush 45, 2) := by decide +kernel
theorem k170_150 {d : Nat} {l0 l1 l2 : Option PV} {st : List PV} {M : Mem} {Q : Option PV → Mem → Prop} : WP d 170 150 [l0, l1, l2] (st) M Q = WP d 170 152 [l0, l1, l2] (vi 45 :: st) M Q := w_bipush mC_170 d170_150 (by decide)
theorem d170_152 : decode cX12_isO 152 = .ok (.invokevirtual 185, 3) := by decide +kernel
theorem k170_152 {d : Nat} {l0 l1 l2 : Option PV} {st : List PV} {M : Mem} {Q : Option PV → Mem → Prop} {a0 : Int32} {r : Nat} (hl : szL st ≤ 8) (hk : mK M r = 12) : WP (d + 1) 170 152 [l0, l1, l2] (vi a0 :: vr r :: st) M Q = WP d 166 0 [some (vr r), some (vi a0)] [] M (fun v M' => WP (d + 1) 170 155 [l0, l1, l2] (psh v st) M' Q) := w_callV mC_170 d170_152 (ci := 12) rfl rfl rfl (Nat.le_of_ble_eq_true rfl) (by decide) rfl hl hk
theorem d170_155 : decode cX12_isO 155 = .ok (.ifCond .eq 28, 3) := by decide +kernel
theorem k170_155 {d : Nat} {l0 l1 l2 : Option PV} {st : List PV} {M : Mem} {Q : Option PV → Mem → Prop} {x : Int32} : WP d 170 155 [l0, l1, l2] (vi x :: st) M Q = (if x = 0 then WP d 170 183 [l0, l1, l2] (st) M Q else WP d 170 158 [l0, l1, l2] (st) M Q) := w_if_eq mC_170 d170_155 (by decide)
theorem d170_158 : decode cX12_isO 158 = .ok (.aload_n 0, 1) := by decide +kernel
theorem k170_158 {d x : Nat} {l1 l2 : Option PV} {st : List PV} {M : Mem} {Q : Option PV → Mem → Prop} : WP d 170 158 [some (vr x), l1, l2] (st) M Q = WP d 170 159 [some (vr x), l1, l2] (vr x :: st) M Q := w1 mC_170 d170_158 rfl rfl
theorem d170_159 : decode cX12_isO 159 = .ok (.invokevirtual 188, 3) := by decide +kernel
theorem k170_159 {d : Nat} {l0 l1 l2 : Option PV} {st : List PV} {M : Mem} {Q : Option PV → Mem → Prop} {r : Nat} (hl : szL st ≤ 8) (hk : mK M r = 12) : WP (d + 1) 170 159 [l0, l1, l2] (vr r :: st) M Q = WP d 170 0 [some (vr r), none, none] [] M (fun v M' => WP (d + 1) 170 162 [l0, l1, l2] (psh v st) M' Q) := w_callV mC_170 d170_159 (ci := 12) rfl rfl rfl (Nat.le_of_ble_eq_true rfl) (by decide) rfl hl hk
theorem d170_162 : decode cX12_isO 162 = .ok (.ifCond .eq 16, 3) := by decide +kernel
theorem k170_162 {d : Nat} {l0 l1 l2 : Option PV} {st : List PV} {M : Mem} {Q : Option PV → Mem → Prop} {x : Int32} : WP d 170 162 [l0, l1, l2] (vi x :: st) M Q = (if x = 0 then WP d 170 178 [l0, l1, l2] (st) M Q else WP d 170 165 [l0, l1, l2] (st) M Q) := w_if_eq mC_170 d170_162 (by decide)
theorem d170_165 : decode cX12_isO 165 = .ok (.aload_n 0, 1) := by decide +kernel
theorem k170_165 {d x : Nat} {l1 l2 : Option PV} {st : List PV} {M : Mem} {Q : Option PV → Mem → Prop} : WP d 170 165 [some (vr x), l1, l2] (st) M Q = WP d 170 166 [some (vr x), l1, l2] (vr x :: st) M Q := w1 mC_170 d170_165 rfl rfl
theorem d170_166 : decode cX12_isO 166 = .ok (.bipush 17, 2) := by decide +kernel
theorem k170_166 {d : Nat} {l0 l1 l2 : Option PV} {st : List PV} {M : Mem} {Q : Option PV → Mem → Prop} : WP d 170 166 [l0, l1, l2] (st) M Q = WP d 170 168 [l0, l1, l2] (vi 17 :: st) M Q := w_bipush mC_170 d170_166 (by decide)
theorem d170_168 : decode cX12_isO 168 = .ok (.invokevirtual 175, 3) := by decide +kernel
theorem k170_168 {d : Nat} {l0 l1 l2 : Option PV} {st : List PV} {M : Mem} {Q : Option PV → Mem → Prop} {a0 : Int32} {r : Nat} (hl : szL st ≤ 8) (hk : mK M r = 12) : WP (d + 1) 170 168 [l0, l1, l2] (vi a0 :: vr r :: st) M Q = WP d 167 0 [some (vr r), some (vi a0)] [] M (fun v M' => WP (d + 1) 170 171 [l0, l1, l2] (psh v st) M' Q) := w_callV mC_170 d170_168 (ci := 12) rfl rfl rfl (Nat.le_of_ble_eq_true rfl) (by decide) rfl hl hk
theorem d170_171 : decode cX12_isO 171 = .ok (.ifCond .eq 7, 3) := by decide +kernel
theorem k170_171 {d : Nat} {l0 l1 l2 : Option PV} {st : List PV} {M : Mem} {Q : Option PV → Mem → Prop} {x : Int32} : WP d 170 171 [l0, l1, l2] (vi x :: st) M Q = (if x = 0 then WP d 170 178 [l0, l1, l2] (st) M Q else WP d 170 174 [l0, l1, l2] (st) M Q) := w_if_eq mC_170 d170_171 (by decide)
theorem d170_174 : decode cX12_isO 174 = .ok (.iconst 1, 1) := by decide +kernel
theorem k170_174 {d : Nat} {l0 l1 l2 : Option PV} {st : List PV} {M : Mem} {Q : Option PV → Mem → Prop} : WP d 170 174 [l0, l1, l2] (st) M Q = WP d 170 175 [l0, l1, l2] (vi 1 :: st) M Q := w_iconst mC_170 d170_174 (by decide)
theorem d170_175 : decode cX12_isO 175 = .ok (.goto 4, 3) := by decide +kernel
theorem k170_175 {d : Nat} {l0 l1 l2 : Option PV} {st : List PV} {M : Mem} {Q : Option PV → Mem → Prop} : WP d 170 175 [l0, l1, l2] (st) M Q = WP d 170 179 [l0, l1, l2] (st) M Q := w_goto mC_170 d170_175 (by decide)
theorem d170_178 : decode cX12_isO 178 = .ok (.iconst 0, 1) := by decide +kernel
theorem k170_178 {d : Nat} {l0 l1 l2 : Option PV} {st : List PV} {M : Mem} {Q : Option PV → Mem → Prop} : WP d 170 178 [l0, l1, l2] (st) M Q = WP d 170 179 [l0, l1, l2] (vi 0 :: st) M Q := w_iconst mC_170 d170_178 (by decide)
theorem d170_179 : decode cX12_isO 179 = .ok (.istore_n 2, 1) := by decide +kernel
theorem k170_179 {d : Nat} {l0 l1 l2 : Option PV} {st : List PV} {M : Mem} {Q : Option PV → Mem → Prop} {x : Int32} : WP d 170 179 [l0, l1, l2] (vi x :: st) M Q = WP d 170 180 [l0, l1, some (vi x)] (st) M Q := w1 mC_170 d170_179 rfl rfl
theorem d170_180 : decode cX12_isO 180 = .ok (.goto 34, 3) := by decide +kernel
theorem k170_180 {d : Nat} {l0 l1 l2 : Option PV} {st : List PV} {M : Mem} {Q : Option PV → Mem → Prop} : WP d 170 180 [l0, l1, l2] (st) M Q = WP d 170 214 [l0, l1, l2] (st) M Q := w_goto mC_170 d170_180 (by decide)
theorem d170_183 : decode cX12_isO 183 = .ok (.aload_n 0, 1) := by decide +kernel
theorem k170_183 {d x : Nat} {l1 l2 : Option PV} {st : List PV} {M : Mem} {Q : Option PV → Mem → Prop} : WP d 170 183 [some (vr x), l1, l2] (st) M Q = WP d 170 184 [some (vr x), l1, l2] (vr x :: st) M Q := w1 mC_170 d170_183 rfl rfl
theorem d170_184 : decode cX12_isO 184 = .ok (.bipush 40, 2) := by decide +kernel
theorem k170_184 {d : Nat} {l0 l1 l2 : Option PV} {st : List PV} {M : Mem} {Q : Option PV → Mem → Prop} : WP d 170 184 [l0, l1, l2] (st) M Q = WP d 170 186 [l0, l1, l2] (vi 40 :: st) M Q := w_bipush mC_170 d170_184 (by decide)
theorem d170_186 : decode cX12_isO 186 = .ok (.invokevirtual 185, 3) := by decide +kernel
theorem k170_186 {d : Nat} {l0 l1 l2 : Option PV} {st : List PV} {M : Mem} {Q : Option PV → Mem → Prop} {a0 : Int32} {r : Nat} (hl : szL st ≤ 8) (hk : mK M r = 12) : WP (d + 1) 170 186 [l0, l1, l2] (vi a0 :: vr r :: st) M Q = WP d 166 0 [some (vr r), some (vi a0)] [] M (fun v M' => WP (d + 1) 170 189 [l0, l1, l2] (psh v st) M' Q) := w_callV mC_170 d170_186 (ci := 12) rfl rfl rfl (Nat.le_of_ble_eq_true rfl) (by decide) rfl hl hk
theorem d170_189 : decode cX12_isO 189 = .ok (.ifCond .eq 23, 3) := by decide +kernel
theorem k170_189 {d : Nat} {l0 l1 l2 : Option PV} {st : List PV} {M : Mem} {Q : Option PV → Mem → Prop} {x : Int32} : WP d 170 189 [l0, l1, l2] (vi x :: st) M Q = (if x = 0 then WP d 170 212 [l0, l1, l2] (st) M Q else WP d 170 192 [l0, l1, l2] (st) M Q) := w_if_eq mC_170 d170_189 (by decide)
theorem d170_192 : decode cX12_isO 192 = .ok (.aload_n 0, 1) := by decide +kernel
theorem k170_192 {d x : Nat} {l1 l2 : Option PV} {st : List PV} {M : Mem} {Q : Option PV → Mem → Prop} : WP d 170 192 [some (vr x), l1, l2] (st) M Q = WP d 170 193 [some (vr x), l1, l2] (vr x :: st) M Q := w1 mC_170 d170_192 rfl rfl
theorem d170_193 : decode cX12_isO 193 = .ok (.invokevirtual 191, 3) := by decide +kernel
theorem k170_193 {d : Nat} {l0 l1 l2 : Option PV} {st : List PV} {M : Mem} {Q : Option PV → Mem → Prop} {r : Nat} (hl : szL st ≤ 8) (hk : mK M r = 12) : WP (d + 1) 170 193 [l0, l1, l2] (vr r :: st) M Q = WP d 175 0 [some (vr r)] [] M (fun v M' => WP (d + 1) 170 196 [l0, l1, l2] (psh v st) M' Q) := w_callV mC_170 d170_193 (ci := 12) rfl rfl rfl (Nat.le_of_ble_eq_true rfl) (by decide) rfl hl hk
theorem d170_196 : decode cX12_isO 196 = .ok (.ifCond .eq 16, 3) := by decide +kernel
theorem k170_196 {d : Nat} {l0 l1 l2 : Option PV} {st : List PV} {M : Mem} {Q : Option PV → Mem → Prop} {x : Int32} : WP d 170 196 [l0, l1, l2] (vi x :: st) M Q = (if x = 0 then WP d 170 212 [l0, l1, l2] (st) M Q else WP d 170 199 [l0, l1, l2] (st) M Q) := w_if_eq mC_170 d170_196 (by decide)
theorem d170_199 : decode cX12_isO 199 = .ok (.aload_n 0, 1) := by decide +kernel
theorem k170_199 {d x : Nat} {l1 l2 : Option PV} {st : List PV} {M : Mem} {Q : Option PV → Mem → Prop} : WP d 170 199 [some (vr x), l1, l2] (st) M Q = WP d 170 200 [some (vr x), l1, l2] (vr x :: st) M Q := w1 mC_170 d170_199 rfl rfl
theorem d170_200 : decode cX12_isO 200 = .ok (.bipush 41, 2) := by decide +kernel
theorem k170_200 {d : Nat} {l0 l1 l2 : Option PV} {st : List PV} {M : Mem} {Q : Option PV → Mem → Prop} : WP d 170 200 [l0, l1, l2] (st) M Q = WP d 170 202 [l0, l1, l2] (vi 41 :: st) M Q := w_bipush mC_170 d170_200 (by decide)
theorem d170_202 : decode cX12_isO 202 = .ok (.invokevirtual 185, 3) := by decide +kernel
theorem k170_202 {d : Nat} {l0 l1 l2 : Option PV} {st : List PV} {M : Mem} {Q : Option PV → Mem → Prop} {a0 : Int32} {r : Nat} (hl : szL st ≤ 8) (hk : mK M r = 12) : WP (d + 1) 170 202 [l0, l1, l2] (vi a0 :: vr r :: st) M Q = WP d 166 0 [some (vr r), some (vi a0)] [] M (fun v M' => WP (d + 1) 170 205 [l0, l1, l2] (psh v st) M' Q) := w_callV mC_170 d170_202 (ci := 12) rfl rfl rfl (Nat.le_of_ble_eq_true rfl) (by decide) rfl hl hk
theorem d170_205 : decode cX12_isO 205 = .ok (.ifCond .eq 7, 3) := by decide +kernel
theorem k170_205 {d : Nat} {l0 l1 l2 : Option PV} {st : List PV} {M : Mem} {Q : Option PV → Mem → Prop} {x : Int32} : WP d 170 205 [l0, l1, l2] (vi x :: st) M Q = (if x = 0 then WP d 170 212 [l0, l1, l2] (st) M Q else WP d 170 208 [l0, l1, l2] (st) M Q) := w_if_eq mC_170 d170_205 (by decide)
theorem d170_208 : decode cX12_isO 208 = .ok (.iconst 1, 1) := by decide +kernel
theorem k170_208 {d : Nat} {l0 l1 l2 : Option PV} {st : List PV} {M : Mem} {Q : Option PV → Mem → Prop} : WP d 170 208 [l0, l1, l2] (st) M Q = WP d 170 209 [l0, l1, l2] (vi 1 :: st) M Q := w_iconst mC_170 d170_208 (by decide)
theorem d170_209 : decode cX12_isO 209 = .ok (.goto 4, 3) := by decide +kernel
theorem k170_209 {d : Nat} {l0 l1 l2 : Option PV} {st : List PV} {M : Mem} {Q : Option PV → Mem → Prop} : WP d 170 209 [l0, l1, l2] (st) M Q = WP d 170 213 [l0, l1, l2] (st) M Q := w_goto mC_170 d170_209 (by decide)
theorem d170_212 : decode cX12_isO 212 = .ok (.iconst 0, 1) := by decide +kernel
theorem k170_212 {d : Nat} {l0 l1 l2 : Option PV} {st : List PV} {M : Mem} {Q : Option PV → Mem → Prop} : WP d 170 212 [l0, l1, l2] (st) M Q = WP d 170 213 [l0, l1, l2] (vi 0 :: st) M Q := w_iconst mC_170 d170_212 (by decide)
theorem d170_213 : decode cX12_isO 213 = .ok (.istore_n 2, 1) := by decide +kernel
theorem k170_213 {d : Nat} {l0 l1 l2 : Option PV} {st : List PV} {M : Mem} {Q : Option PV → Mem → Prop} {x : Int32} : WP d 170 213 [l0, l1, l2] (vi x :: st) M Q = WP d 170 214 [l0, l1, some (vi x)] (st) M Q := w1 mC_170 d170_213 rfl rfl
theorem d170_214 : decode cX12_isO 214 = .ok (.aload_n 0, 1) := by decide +kernel
theorem k170_214 {d x : Nat} {l1 l2 : Option PV} {st : List PV} {M : Mem} {Q : Option PV → Mem → Prop} : WP d 170 214 [some (vr x), l1, l2] (st) M Q = WP d 170 215 [some (vr x), l1, l2] (vr x :: st) M Q := w1 mC_170 d170_214 rfl rfl
theorem d170_215 : decode cX12_isO 215 = .ok (.dup, 1) := by decide +kernel
theorem k170_215 {d : Nat} {l0 l1 l2 : Option PV} {st : List PV} {M : Mem} {Q : Option PV → Mem → Prop} {x : Nat} : WP d 170 215 [l0, l1, l2] (vr x :: st) M Q = WP d 170 216 [l0, l1, l2] (vr x :: vr x :: st) M Q := w1 mC_170 d170_215 rfl rfl
theorem k170_215i {d : Nat} {l0 l1 l2 : Option PV} {st : List PV} {M : Mem} {Q : Option PV → Mem → Prop} {x : Int32} : WP d 170 215 [l0, l1, l2] (vi x :: st) M Q = WP d 170 216 [l0, l1, l2] (vi x :: vi x :: st) M Q := w1 mC_170 d170_215 rfl rfl
theorem d170_216 : decode cX12_isO 216 = .ok (.getfield 182, 3) := by decide +kernel
theorem k170_216 {d : Nat} {l0 l1 l2 : Option PV} {st : List PV} {M : Mem} {Q : Option PV → Mem → Prop} {r : Nat} (hk : mK M r = 12) : WP d 170 216 [l0, l1, l2] (vr r :: st) M Q = WP d 170 219 [l0, l1, l2] (vi (mI M r 13) :: st) M Q := w_get mC_170 d170_216 fE_12_182 rfl (by rw [hk]; rfl)
theorem d170_219 : decode cX12_isO 219 = .ok (.iconst 1, 1) := by decide +kernel
theorem k170_219 {d : Nat} {l0 l1 l2 : Option PV} {st : List PV} {M : Mem} {Q : Option PV → Mem → Prop} : WP d 170 219 [l0, l1, l2] (st) M Q = WP d 170 220 [l0, l1, l2] (vi 1 :: st) M Q := w_iconst mC_170 d170_219 (by decide)
theorem d170_220 : decode cX12_isO 220 = .ok (.isub, 1) := by decide +kernel
theorem k170_220 {d : Nat} {l0 l1 l2 : Option PV} {st : List PV} {M : Mem} {Q : Option PV → Mem → Prop} {x y : Int32} : WP d 170 220 [l0, l1, l2] (vi y :: vi x :: st) M Q = WP d 170 221 [l0, l1, l2] (vi (x - y) :: st) M Q := w1 mC_170 d170_220 rfl rfl
theorem d170_221 : decode cX12_isO 221 = .ok (.putfield 182, 3) := by decide +kernel
theorem k170_221 {d : Nat} {l0 l1 l2 : Option PV} {st : List PV} {M : Mem} {Q : Option PV → Mem → Prop} {r : Nat} {x : Int32} (hk : mK M r = 12) : WP d 170 221 [l0, l1, l2] (vi x :: vr r :: st) M Q = WP d 170 224 [l0, l1, l2] (st) (sI M r 13 x) Q := w_put mC_170 d170_221 fE_12_182 (by decide +kernel) (by rw [hk]; rfl)
theorem d170_224 : decode cX12_isO 224 = .ok (.iload_n 2, 1) := by decide +kernel
theorem k170_224 {d : Nat} {x : Int32} {l0 l1 : Option PV} {st : List PV} {M : Mem} {Q : Option PV → Mem → Prop} : WP d 170 224 [l0, l1, some (vi x)] (st) M Q = WP d 170 225 [l0, l1, some (vi x)] (vi x :: st) M Q := w1 mC_170 d170_224 rfl rfl
theorem d170_225 : decode cX12_isO 225 = .ok (.ireturn, 1) := by decide +kernel
theorem k170_225 {d : Nat} {l0 l1 l2 : Option PV} {M : Mem} {Q : Option PV → Mem → Prop} {x : Int32} (hx : x = 0 ∨ x = 1) : WP d 170 225 [l0, l1, l2] ([vi x]) M Q = Q (some (vi x)) M := w_zret mC_170 d170_225 rfl hx
theorem d171_0 : decode cX12_isP 0 = .ok (.aload_n 0, 1) := by decide +kernel
theorem k171_0 {d x : Nat} {l1 : Option PV} {st : List PV} {M : Mem} {Q : Option PV → Mem → Prop} : WP d 171 0 [some (vr x), l1] (st) M Q = WP d 171 1 [some (vr x), l1] (vr x :: st) M Q := w1 mC_171 d171_0 rfl rfl
theorem d171_1 : decode cX12_isP 1 = .ok (.invokevirtual 188, 3) := by decide +kernel
theorem k171_1 {d : Nat} {l0 l1 : Option PV} {st : List PV} {M : Mem} {Q : Option PV → Mem → Prop} {r : Nat} (hl : szL st ≤ 8) (hk : mK M r = 12) : WP (d + 1) 171 1 [l0, l1] (vr r :: st) M Q = WP d 170 0 [some (vr r), none, none] [] M (fun v M' => WP (d + 1) 171 4 [l0, l1] (psh v st) M' Q) := w_callV mC_171 d171_1 (ci := 12) rfl rfl rfl (Nat.le_of_ble_eq_true rfl) (by decide) rfl hl hk
theorem d171_4 : decode cX12_isP 4 = .ok (.ifCond .ne 5, 3) := by decide +kernel
theorem k171_4 {d : Nat} {l0 l1 : Option PV} {st : List PV} {M : Mem} {Q : Option PV → Mem → Prop} {x : Int32} : WP d 171 4 [l0, l1] (vi x :: st) M Q = (if x = 0 then WP d 171 7 [l0, l1] (st) M Q else WP d 171 9 [l0, l1] (st) M Q) := w_if_ne mC_171 d171_4 (by decide)
theorem d171_7 : decode cX12_isP 7 = .ok (.iconst 0, 1) := by decide +kernel
theorem k171_7 {d : Nat} {l0 l1 : Option PV} {st : List PV} {M : Mem} {Q : Option PV → Mem → Prop} : WP d 171 7 [l0, l1] (st) M Q = WP d 171 8 [l0, l1] (vi 0 :: st) M Q := w_iconst mC_171 d171_7 (by decide)
theorem d171_8 : decode cX12_isP 8 = .ok (.ireturn, 1) := by decide +kernel
theorem k171_8 {d : Nat} {l0 l1 : Option PV} {M : Mem} {Q : Option PV → Mem → Prop} {x : Int32} (hx : x = 0 ∨ x = 1) : WP d 171 8 [l0, l1] ([vi x]) M Q = Q (some (vi x)) M := w_zret mC_171 d171_8 rfl hx
theorem d171_9 : decode cX12_isP 9 = .ok (.aload_n 0, 1) := by decide +kernel
theorem k171_9 {d x : Nat} {l1 : Option PV} {st : List PV} {M : Mem} {Q : Option PV → Mem → Prop} : WP d 171 9 [some (vr x), l1] (st) M Q = WP d 171 10 [some (vr x), l1] (vr x :: st) M Q := w1 mC_171 d171_9 rfl rfl
theorem d171_10 : decode cX12_isP 10 = .ok (.invokevirtual 164, 3) := by decide +kernel
theorem k171_10 {d : Nat} {l0 l1 : Option PV} {st : List PV} {M : Mem} {Q : Option PV → Mem → Prop} {r : Nat} (hl : szL st ≤ 8) (hk : mK M r = 12) : WP (d + 1) 171 10 [l0, l1] (vr r :: st) M Q = WP d 165 0 [some (vr r)] [] M (fun v M' => WP (d + 1) 171 13 [l0, l1] (psh v st) M' Q) := w_callV mC_171 d171_10 (ci := 12) rfl rfl rfl (Nat.le_of_ble_eq_true rfl) (by decide) rfl hl hk
theorem d171_13 : decode cX12_isP 13 = .ok (.bipush 42, 2) := by decide +kernel
theorem k171_13 {d : Nat} {l0 l1 : Option PV} {st : List PV} {M : Mem} {Q : Option PV → Mem → Prop} : WP d 171 13 [l0, l1] (st) M Q = WP d 171 15 [l0, l1] (vi 42 :: st) M Q := w_bipush mC_171 d171_13 (by decide)
theorem d171_15 : decode cX12_isP 15 = .ok (.if_icmp .ne 8, 3) := by decide +kernel
theorem k171_15 {d : Nat} {l0 l1 : Option PV} {st : List PV} {M : Mem} {Q : Option PV → Mem → Prop} {x y : Int32} : WP d 171 15 [l0, l1] (vi y :: vi x :: st) M Q = (if x = y then WP d 171 18 [l0, l1] (st) M Q else WP d 171 23 [l0, l1] (st) M Q) := w_ic_ne mC_171 d171_15 (by decide)
theorem d171_18 : decode cX12_isP 18 = .ok (.bipush 13, 2) := by decide +kernel
theorem k171_18 {d : Nat} {l0 l1 : Option PV} {st : List PV} {M : Mem} {Q : Option PV → Mem → Prop} : WP d 171 18 [l0, l1] (st) M Q = WP d 171 20 [l0, l1] (vi 13 :: st) M Q := w_bipush mC_171 d171_18 (by decide)
theorem d171_20 : decode cX12_isP 20 = .ok (.goto 32, 3) := by decide +kernel
theorem k171_20 {d : Nat} {l0 l1 : Option PV} {st : List PV} {M : Mem} {Q : Option PV → Mem → Prop} : WP d 171 20 [l0, l1] (st) M Q = WP d 171 52 [l0, l1] (st) M Q := w_goto mC_171 d171_20 (by decide)
theorem d171_23 : decode cX12_isP 23 = .ok (.aload_n 0, 1) := by decide +kernel
theorem k171_23 {d x : Nat} {l1 : Option PV} {st : List PV} {M : Mem} {Q : Option PV → Mem → Prop} : WP d 171 23 [some (vr x), l1] (st) M Q = WP d 171 24 [some (vr x), l1] (vr x :: st) M Q := w1 mC_171 d171_23 rfl rfl
theorem d171_24 : decode cX12_isP 24 = .ok (.invokevirtual 164, 3) := by decide +kernel
theorem k171_24 {d : Nat} {l0 l1 : Option PV} {st : List PV} {M : Mem} {Q : Option PV → Mem → Prop} {r : Nat} (hl : szL st ≤ 8) (hk : mK M r = 12) : WP (d + 1) 171 24 [l0, l1] (vr r :: st) M Q = WP d 165 0 [some (vr r)] [] M (fun v M' => WP (d + 1) 171 27 [l0, l1] (psh v st) M' Q) := w_callV mC_171 d171_24 (ci := 12) rfl rfl rfl (Nat.le_of_ble_eq_true rfl) (by decide) rfl hl hk
theorem d171_27 : decode cX12_isP 27 = .ok (.bipush 47, 2) := by decide +kernel
theorem k171_27 {d : Nat} {l0 l1 : Option PV} {st : List PV} {M : Mem} {Q : Option PV → Mem → Prop} : WP d 171 27 [l0, l1] (st) M Q = WP d 171 29 [l0, l1] (vi 47 :: st) M Q := w_bipush mC_171 d171_27 (by decide)
theorem d171_29 : decode cX12_isP 29 = .ok (.if_icmp .ne 8, 3) := by decide +kernel
theorem k171_29 {d : Nat} {l0 l1 : Option PV} {st : List PV} {M : Mem} {Q : Option PV → Mem → Prop} {x y : Int32} : WP d 171 29 [l0, l1] (vi y :: vi x :: st) M Q = (if x = y then WP d 171 32 [l0, l1] (st) M Q else WP d 171 37 [l0, l1] (st) M Q) := w_ic_ne mC_171 d171_29 (by decide)
theorem d171_32 : decode cX12_isP 32 = .ok (.bipush 14, 2) := by decide +kernel
theorem k171_32 {d : Nat} {l0 l1 : Option PV} {st : List PV} {M : Mem} {Q : Option PV → Mem → Prop} : WP d 171 32 [l0, l1] (st) M Q = WP d 171 34 [l0, l1] (vi 14 :: st) M Q := w_bipush mC_171 d171_32 (by decide)
theorem d171_34 : decode cX12_isP 34 = .ok (.goto 18, 3) := by decide +kernel
theorem k171_34 {d : Nat} {l0 l1 : Option PV} {st : List PV} {M : Mem} {Q : Option PV → Mem → Prop} : WP d 171 34 [l0, l1] (st) M Q = WP d 171 52 [l0, l1] (st) M Q := w_goto mC_171 d171_34 (by decide)
theorem d171_37 : decode cX12_isP 37 = .ok (.aload_n 0, 1) := by decide +kernel
theorem k171_37 {d x : Nat} {l1 : Option PV} {st : List PV} {M : Mem} {Q : Option PV → Mem → Prop} : WP d 171 37 [some (vr x), l1] (st) M Q = WP d 171 38 [some (vr x), l1] (vr x :: st) M Q := w1 mC_171 d171_37 rfl rfl
theorem d171_38 : decode cX12_isP 38 = .ok (.invokevirtual 164, 3) := by decide +kernel
theorem k171_38 {d : Nat} {l0 l1 : Option PV} {st : List PV} {M : Mem} {Q : Option PV → Mem → Prop} {r : Nat} (hl : szL st ≤ 8) (hk : mK M r = 12) : WP (d + 1) 171 38 [l0, l1] (vr r :: st) M Q = WP d 165 0 [some (vr r)] [] M (fun v M' => WP (d + 1) 171 41 [l0, l1] (psh v st) M' Q) := w_callV mC_171 d171_38 (ci := 12) rfl rfl rfl (Nat.le_of_ble_eq_true rfl) (by decide) rfl hl hk
theorem d171_41 : decode cX12_isP 41 = .ok (.bipush 37, 2) := by decide +kernel
theorem k171_41 {d : Nat} {l0 l1 : Option PV} {st : List PV} {M : Mem} {Q : Option PV → Mem → Prop} : WP d 171 41 [l0, l1] (st) M Q = WP d 171 43 [l0, l1] (vi 37 :: st) M Q := w_bipush mC_171 d171_41 (by decide)
theorem d171_43 : decode cX12_isP 43 = .ok (.if_icmp .ne 8, 3) := by decide +kernel
theorem k171_43 {d : Nat} {l0 l1 : Option PV} {st : List PV} {M : Mem} {Q : Option PV → Mem → Prop} {x y : Int32} : WP d 171 43 [l0, l1] (vi y :: vi x :: st) M Q = (if x = y then WP d 171 46 [l0, l1] (st) M Q else WP d 171 51 [l0, l1] (st) M Q) := w_ic_ne mC_171 d171_43 (by decide)
theorem d171_46 : decode cX12_isP 46 = .ok (.bipush 15, 2) := by decide +kernel
theorem k171_46 {d : Nat} {l0 l1 : Option PV} {st : List PV} {M : Mem} {Q : Option PV → Mem → Prop} : WP d 171 46 [l0, l1] (st) M Q = WP d 171 48 [l0, l1] (vi 15 :: st) M Q := w_bipush mC_171 d171_46 (by decide)
theorem d171_48 : decode cX12_isP 48 = .ok (.goto 4, 3) := by decide +kernel
theorem k171_48 {d : Nat} {l0 l1 : Option PV} {st : List PV} {M : Mem} {Q : Option PV → Mem → Prop} : WP d 171 48 [l0, l1] (st) M Q = WP d 171 52 [l0, l1] (st) M Q := w_goto mC_171 d171_48 (by decide)
theorem d171_51 : decode cX12_isP 51 = .ok (.iconst (-1), 1) := by decide +kernel
theorem k171_51 {d : Nat} {l0 l1 : Option PV} {st : List PV} {M : Mem} {Q : Option PV → Mem → Prop} : WP d 171 51 [l0, l1] (st) M Q = WP d 171 52 [l0, l1] (vi (-1) :: st) M Q := w_iconst mC_171 d171_51 (by decide)
theorem d171_52 : decode cX12_isP 52 = .ok (.istore_n 1, 1) := by decide +kernel
theorem k171_52 {d : Nat} {l0 l1 : Option PV} {st : List PV} {M : Mem} {Q : Option PV → Mem → Prop} {x : Int32} : WP d 171 52 [l0, l1] (vi x :: st) M Q = WP d 171 53 [l0, some (vi x)] (st) M Q := w1 mC_171 d171_52 rfl rfl
theorem d171_53 : decode cX12_isP 53 = .ok (.iload_n 1, 1) := by decide +kernel
theorem k171_53 {d : Nat} {x : Int32} {l0 : Option PV} {st : List PV} {M : Mem} {Q : Option PV → Mem → Prop} : WP d 171 53 [l0, some (vi x)] (st) M Q = WP d 171 54 [l0, some (vi x)] (vi x :: st) M Q := w1 mC_171 d171_53 rfl rfl
theorem d171_54 : decode cX12_isP 54 = .ok (.ifCond .ge 5, 3) := by decide +kernel
theorem k171_54 {d : Nat} {l0 l1 : Option PV} {st : List PV} {M : Mem} {Q : Option PV → Mem → Prop} {x : Int32} : WP d 171 54 [l0, l1] (vi x :: st) M Q = (if 0 ≤ x then WP d 171 59 [l0, l1] (st) M Q else WP d 171 57 [l0, l1] (st) M Q) := w_if_ge mC_171 d171_54 (by decide)
theorem d171_57 : decode cX12_isP 57 = .ok (.iconst 1, 1) := by decide +kernel
theorem k171_57 {d : Nat} {l0 l1 : Option PV} {st : List PV} {M : Mem} {Q : Option PV → Mem → Prop} : WP d 171 57 [l0, l1] (st) M Q = WP d 171 58 [l0, l1] (vi 1 :: st) M Q := w_iconst mC_171 d171_57 (by decide)
theorem d171_58 : decode cX12_isP 58 = .ok (.ireturn, 1) := by decide +kernel
theorem k171_58 {d : Nat} {l0 l1 : Option PV} {M : Mem} {Q : Option PV → Mem → Prop} {x : Int32} (hx : x = 0 ∨ x = 1) : WP d 171 58 [l0, l1] ([vi x]) M Q = Q (some (vi x)) M := w_zret mC_171 d171_58 rfl hx
theorem d171_59 : decode cX12_isP 59 = .ok (.aload_n 0, 1) := by decide +kernel
theorem k171_59 {d x : Nat} {l1 : Option PV} {st : List PV} {M : Mem} {Q : Option PV → Mem → Prop} : WP d 171 59 [some (vr x), l1] (st) M Q = WP d 171 60 [some (vr x), l1] (vr x :: st) M Q := w1 mC_171 d171_59 rfl rfl
theorem d171_60 : decode cX12_isP 60 = .ok (.dup, 1) := by decide +kernel
theorem k171_60 {d : Nat} {l0 l1 : Option PV} {st : List PV} {M : Mem} {Q : Option PV → Mem → Prop} {x : Nat} : WP d 171 60 [l0, l1] (vr x :: st) M Q = WP d 171 61 [l0, l1] (vr x :: vr x :: st) M Q := w1 mC_171 d171_60 rfl rfl
theorem k171_60i {d : Nat} {l0 l1 : Option PV} {st : List PV} {M : Mem} {Q : Option PV → Mem → Prop} {x : Int32} : WP d 171 60 [l0, l1] (vi x :: st) M Q = WP d 171 61 [l0, l1] (vi x :: vi x :: st) M Q := w1 mC_171 d171_60 rfl rfl
theorem d171_61 : decode cX12_isP 61 = .ok (.getfield 161, 3) := by decide +kernel
theorem k171_61 {d : Nat} {l0 l1 : Option PV} {st : List PV} {M : Mem} {Q : Option PV → Mem → Prop} {r : Nat} (hk : mK M r = 12) : WP d 171 61 [l0, l1] (vr r :: st) M Q = WP d 171 64 [l0, l1] (vi (mI M r 12) :: st) M Q := w_get mC_171 d171_61 fE_12_161 rfl (by rw [hk]; rfl)
theorem d171_64 : decode cX12_isP 64 = .ok (.iconst 1, 1) := by decide +kernel
theorem k171_64 {d : Nat} {l0 l1 : Option PV} {st : List PV} {M : Mem} {Q : Option PV → Mem → Prop} : WP d 171 64 [l0, l1] (st) M Q = WP d 171 65 [l0, l1] (vi 1 :: st) M Q := w_iconst mC_171 d171_64 (by decide)
theorem d171_65 : decode cX12_isP 65 = .ok (.iadd, 1) := by decide +kernel
theorem k171_65 {d : Nat} {l0 l1 : Option PV} {st : List PV} {M : Mem} {Q : Option PV → Mem → Prop} {x y : Int32} : WP d 171 65 [l0, l1] (vi y :: vi x :: st) M Q = WP d 171 66 [l0, l1] (vi (x + y) :: st) M Q := w1 mC_171 d171_65 rfl rfl
theorem d171_66 : decode cX12_isP 66 = .ok (.putfield 161, 3) := by decide +kernel
theorem k171_66 {d : Nat} {l0 l1 : Option PV} {st : List PV} {M : Mem} {Q : Option PV → Mem → Prop} {r : Nat} {x : Int32} (hk : mK M r = 12) : WP d 171 66 [l0, l1] (vi x :: vr r :: st) M Q = WP d 171 69 [l0, l1] (st) (sI M r 12 x) Q := w_put mC_171 d171_66 fE_12_161 (by decide +kernel) (by rw [hk]; rfl)
theorem d171_69 : decode cX12_isP 69 = .ok (.aload_n 0, 1) := by decide +kernel
theorem k171_69 {d x : Nat} {l1 : Option PV} {st : List PV} {M : Mem} {Q : Option PV → Mem → Prop} : WP d 171 69 [some (vr x), l1] (st) M Q = WP d 171 70 [some (vr x), l1] (vr x :: st) M Q := w1 mC_171 d171_69 rfl rfl
theorem d171_70 : decode cX12_isP 70 = .ok (.invokevirtual 188, 3) := by decide +kernel
theorem k171_70 {d : Nat} {l0 l1 : Option PV} {st : List PV} {M : Mem} {Q : Option PV → Mem → Prop} {r : Nat} (hl : szL st ≤ 8) (hk : mK M r = 12) : WP (d + 1) 171 70 [l0, l1] (vr r :: st) M Q = WP d 170 0 [some (vr r), none, none] [] M (fun v M' => WP (d + 1) 171 73 [l0, l1] (psh v st) M' Q) := w_callV mC_171 d171_70 (ci := 12) rfl rfl rfl (Nat.le_of_ble_eq_true rfl) (by decide) rfl hl hk
theorem d171_73 : decode cX12_isP 73 = .ok (.ifCond .ne 5, 3) := by decide +kernel
theorem k171_73 {d : Nat} {l0 l1 : Option PV} {st : List PV} {M : Mem} {Q : Option PV → Mem → Prop} {x : Int32} : WP d 171 73 [l0, l1] (vi x :: st) M Q = (if x = 0 then WP d 171 76 [l0, l1] (st) M Q else WP d 171 78 [l0, l1] (st) M Q) := w_if_ne mC_171 d171_73 (by decide)
theorem d171_76 : decode cX12_isP 76 = .ok (.iconst 0, 1) := by decide +kernel
theorem k171_76 {d : Nat} {l0 l1 : Option PV} {st : List PV} {M : Mem} {Q : Option PV → Mem → Prop} : WP d 171 76 [l0, l1] (st) M Q = WP d 171 77 [l0, l1] (vi 0 :: st) M Q := w_iconst mC_171 d171_76 (by decide)
theorem d171_77 : decode cX12_isP 77 = .ok (.ireturn, 1) := by decide +kernel
theorem k171_77 {d : Nat} {l0 l1 : Option PV} {M : Mem} {Q : Option PV → Mem → Prop} {x : Int32} (hx : x = 0 ∨ x = 1) : WP d 171 77 [l0, l1] ([vi x]) M Q = Q (some (vi x)) M := w_zret mC_171 d171_77 rfl hx
theorem d171_78 : decode cX12_isP 78 = .ok (.aload_n 0, 1) := by decide +kernel
theorem k171_78 {d x : Nat} {l1 : Option PV} {st : List PV} {M : Mem} {Q : Option PV → Mem → Prop} : WP d 171 78 [some (vr x), l1] (st) M Q = WP d 171 79 [some (vr x), l1] (vr x :: st) M Q := w1 mC_171 d171_78 rfl rfl
theorem d171_79 : decode cX12_isP 79 = .ok (.iload_n 1, 1) := by decide +kernel
theorem k171_79 {d : Nat} {x : Int32} {l0 : Option PV} {st : List PV} {M : Mem} {Q : Option PV → Mem → Prop} : WP d 171 79 [l0, some (vi x)] (st) M Q = WP d 171 80 [l0, some (vi x)] (vi x :: st) M Q := w1 mC_171 d171_79 rfl rfl
theorem d171_80 : decode cX12_isP 80 = .ok (.invokevirtual 175, 3) := by decide +kernel
theorem k171_80 {d : Nat} {l0 l1 : Option PV} {st : List PV} {M : Mem} {Q : Option PV → Mem → Prop} {a0 : Int32} {r : Nat} (hl : szL st ≤ 8) (hk : mK M r = 12) : WP (d + 1) 171 80 [l0, l1] (vi a0 :: vr r :: st) M Q = WP d 167 0 [some (vr r), some (vi a0)] [] M (fun v M' => WP (d + 1) 171 83 [l0, l1] (psh v st) M' Q) := w_callV mC_171 d171_80 (ci := 12) rfl rfl rfl (Nat.le_of_ble_eq_true rfl) (by decide) rfl hl hk
theorem d171_83 : decode cX12_isP 83 = .ok (.pop, 1) := by decide +kernel
theorem k171_83 {d : Nat} {l0 l1 : Option PV} {st : List PV} {M : Mem} {Q : Option PV → Mem → Prop} {x : Nat} : WP d 171 83 [l0, l1] (vr x :: st) M Q = WP d 171 84 [l0, l1] (st) M Q := w1 mC_171 d171_83 rfl rfl
theorem k171_83i {d : Nat} {l0 l1 : Option PV} {st : List PV} {M : Mem} {Q : Option PV → Mem → Prop} {x : Int32} : WP d 171 83 [l0, l1] (vi x :: st) M Q = WP d 171 84 [l0, l1] (st) M Q := w1 mC_171 d171_83 rfl rfl
theorem d171_84 : decode cX12_isP 84 = .ok (.goto (-75), 3) := by decide +kernel
theorem k171_84 {d : Nat} {l0 l1 : Option PV} {st : List PV} {M : Mem} {Q : Option PV → Mem → Prop} : WP d 171 84 [l0, l1] (st) M Q = WP d 171 9 [l0, l1] (st) M Q := w_goto mC_171 d171_84 (by decide)
theorem d172_0 : decode cX12_isS 0 = .ok (.aload_n 0, 1) := by decide +kernel
theorem k172_0 {d x : Nat} {l1 : Option PV} {st : List PV} {M : Mem} {Q : Option PV → Mem → Prop} : WP d 172 0 [some (vr x), l1] (st) M Q = WP d 172 1 [some (vr x), l1] (vr x :: st) M Q := w1 mC_172 d172_0 rfl rfl
theorem d172_1 : decode cX12_isS 1 = .ok (.invokevirtual 194, 3) := by decide +kernel
theorem k172_1 {d : Nat} {l0 l1 : Option PV} {st : List PV} {M : Mem} {Q : Option PV → Mem → Prop} {r : Nat} (hl : szL st ≤ 8) (hk : mK M r = 12) : WP (d + 1) 172 1 [l0, l1] (vr r :: st) M Q = WP d 171 0 [some (vr r), none] [] M (fun v M' => WP (d + 1) 172 4 [l0, l1] (psh v st) M' Q) := w_callV mC_172 d172_1 (ci := 12) rfl rfl rfl (Nat.le_of_ble_eq_true rfl) (by decide) rfl hl hk
theorem d172_4 : decode cX12_isS 4 = .ok (.ifCond .ne 5, 3) := by decide +kernel
theorem k172_4 {d : Nat} {l0 l1 : Option PV} {st : List PV} {M : Mem} {Q : Option PV → Mem → Prop} {x : Int32} : WP d 172 4 [l0, l1] (vi x :: st) M Q = (if x = 0 then WP d 172 7 [l0, l1] (st) M Q else WP d 172 9 [l0, l1] (st) M Q) := w_if_ne mC_172 d172_4 (by decide)
theorem d172_7 : decode cX12_isS 7 = .ok (.iconst 0, 1) := by decide +kernel
theorem k172_7 {d : Nat} {l0 l1 : Option PV} {st : List PV} {M : Mem} {Q : Option PV → Mem → Prop} : WP d 172 7 [l0, l1] (st) M Q = WP d 172 8 [l0, l1] (vi 0 :: st) M Q := w_iconst mC_172 d172_7 (by decide)
theorem d172_8 : decode cX12_isS 8 = .ok (.ireturn, 1) := by decide +kernel
theorem k172_8 {d : Nat} {l0 l1 : Option PV} {M : Mem} {Q : Option PV → Mem → Prop} {x : Int32} (hx : x = 0 ∨ x = 1) : WP d 172 8 [l0, l1] ([vi x]) M Q = Q (some (vi x)) M := w_zret mC_172 d172_8 rfl hx
theorem d172_9 : decode cX12_isS 9 = .ok (.aload_n 0, 1) := by decide +kernel
theorem k172_9 {d x : Nat} {l1 : Option PV} {st : List PV} {M : Mem} {Q : Option PV → Mem → Prop} : WP d 172 9 [some (vr x), l1] (st) M Q = WP d 172 10 [some (vr x), l1] (vr x :: st) M Q := w1 mC_172 d172_9 rfl rfl
theorem d172_10 : decode cX12_isS 10 = .ok (.invokevirtual 164, 3) := by decide +kernel
theorem k172_10 {d : Nat} {l0 l1 : Option PV} {st : List PV} {M : Mem} {Q : Option PV → Mem → Prop} {r : Nat} (hl : szL st ≤ 8) (hk : mK M r = 12) : WP (d + 1) 172 10 [l0, l1] (vr r :: st) M Q = WP d 165 0 [some (vr r)] [] M (fun v M' => WP (d + 1) 172 13 [l0, l1] (psh v st) M' Q) := w_callV mC_172 d172_10 (ci := 12) rfl rfl rfl (Nat.le_of_ble_eq_true rfl) (by decide) rfl hl hk
theorem d172_13 : decode cX12_isS 13 = .ok (.bipush 43, 2) := by decide +kernel
theorem k172_13 {d : Nat} {l0 l1 : Option PV} {st : List PV} {M : Mem} {Q : Option PV → Mem → Prop} : WP d 172 13 [l0, l1] (st) M Q = WP d 172 15 [l0, l1] (vi 43 :: st) M Q := w_bipush mC_172 d172_13 (by decide)
theorem d172_15 : decode cX12_isS 15 = .ok (.if_icmp .ne 8, 3) := by decide +kernel
theorem k172_15 {d : Nat} {l0 l1 : Option PV} {st : List PV} {M : Mem} {Q : Option PV → Mem → Prop} {x y : Int32} : WP d 172 15 [l0, l1] (vi y :: vi x :: st) M Q = (if x = y then WP d 172 18 [l0, l1] (st) M Q else WP d 172 23 [l0, l1] (st) M Q) := w_ic_ne mC_172 d172_15 (by decide)
theorem d172_18 : decode cX12_isS 18 = .ok (.bipush 11, 2) := by decide +kernel
theorem k172_18 {d : Nat} {l0 l1 : Option PV} {st : List PV} {M : Mem} {Q : Option PV → Mem → Prop} : WP d 172 18 [l0, l1] (st) M Q = WP d 172 20 [l0, l1] (vi 11 :: st) M Q := w_bipush mC_172 d172_18 (by decide)
theorem d172_20 : decode cX12_isS 20 = .ok (.goto 18, 3) := by decide +kernel
theorem k172_20 {d : Nat} {l0 l1 : Option PV} {st : List PV} {M : Mem} {Q : Option PV → Mem → Prop} : WP d 172 20 [l0, l1] (st) M Q = WP d 172 38 [l0, l1] (st) M Q := w_goto mC_172 d172_20 (by decide)
theorem d172_23 : decode cX12_isS 23 = .ok (.aload_n 0, 1) := by decide +kernel
theorem k172_23 {d x : Nat} {l1 : Option PV} {st : List PV} {M : Mem} {Q : Option PV → Mem → Prop} : WP d 172 23 [some (vr x), l1] (st) M Q = WP d 172 24 [some (vr x), l1] (vr x :: st) M Q := w1 mC_172 d172_23 rfl rfl
theorem d172_24 : decode cX12_isS 24 = .ok (.invokevirtual 164, 3) := by decide +kernel
theorem k172_24 {d : Nat} {l0 l1 : Option PV} {st : List PV} {M : Mem} {Q : Option PV → Mem → Prop} {r : Nat} (hl : szL st ≤ 8) (hk : mK M r = 12) : WP (d + 1) 172 24 [l0, l1] (vr r :: st) M Q = WP d 165 0 [some (vr r)] [] M (fun v M' => WP (d + 1) 172 27 [l0, l1] (psh v st) M' Q) := w_callV mC_172 d172_24 (ci := 12) rfl rfl rfl (Nat.le_of_ble_eq_true rfl) (by decide) rfl hl hk
theorem d172_27 : decode cX12_isS 27 = .ok (.bipush 45, 2) := by decide +kernel
theorem k172_27 {d : Nat} {l0 l1 : Option PV} {st : List PV} {M : Mem} {Q : Option PV → Mem → Prop} : WP d 172 27 [l0, l1] (st) M Q = WP d 172 29 [l0, l1] (vi 45 :: st) M Q := w_bipush mC_172 d172_27 (by decide)
theorem d172_29 : decode cX12_isS 29 = .ok (.if_icmp .ne 8, 3) := by decide +kernel
theorem k172_29 {d : Nat} {l0 l1 : Option PV} {st : List PV} {M : Mem} {Q : Option PV → Mem → Prop} {x y : Int32} : WP d 172 29 [l0, l1] (vi y :: vi x :: st) M Q = (if x = y then WP d 172 32 [l0, l1] (st) M Q else WP d 172 37 [l0, l1] (st) M Q) := w_ic_ne mC_172 d172_29 (by decide)
theorem d172_32 : decode cX12_isS 32 = .ok (.bipush 12, 2) := by decide +kernel
theorem k172_32 {d : Nat} {l0 l1 : Option PV} {st : List PV} {M : Mem} {Q : Option PV → Mem → Prop} : WP d 172 32 [l0, l1] (st) M Q = WP d 172 34 [l0, l1] (vi 12 :: st) M Q := w_bipush mC_172 d172_32 (by decide)
theorem d172_34 : decode cX12_isS 34 = .ok (.goto 4, 3) := by decide +kernel
theorem k172_34 {d : Nat} {l0 l1 : Option PV} {st : List PV} {M : Mem} {Q : Option PV → Mem → Prop} : WP d 172 34 [l0, l1] (st) M Q = WP d 172 38 [l0, l1] (st) M Q := w_goto mC_172 d172_34 (by decide)
theorem d172_37 : decode cX12_isS 37 = .ok (.iconst (-1), 1) := by decide +kernel
theorem k172_37 {d : Nat} {l0 l1 : Option PV} {st : List PV} {M : Mem} {Q : Option PV → Mem → Prop} : WP d 172 37 [l0, l1] (st) M Q = WP d 172 38 [l0, l1] (vi (-1) :: st) M Q := w_iconst mC_172 d172_37 (by decide)
theorem d172_38 : decode cX12_isS 38 = .ok (.istore_n 1, 1) := by decide +kernel
theorem k172_38 {d : Nat} {l0 l1 : Option PV} {st : List PV} {M : Mem} {Q : Option PV → Mem → Prop} {x : Int32} : WP d 172 38 [l0, l1] (vi x :: st) M Q = WP d 172 39 [l0, some (vi x)] (st) M Q := w1 mC_172 d172_38 rfl rfl
theorem d172_39 : decode cX12_isS 39 = .ok (.iload_n 1, 1) := by decide +kernel
theorem k172_39 {d : Nat} {x : Int32} {l0 : Option PV} {st : List PV} {M : Mem} {Q : Option PV → Mem → Prop} : WP d 172 39 [l0, some (vi x)] (st) M Q = WP d 172 40 [l0, some (vi x)] (vi x :: st) M Q := w1 mC_172 d172_39 rfl rfl
theorem d172_40 : decode cX12_isS 40 = .ok (.ifCond .ge 5, 3) := by decide +kernel
theorem k172_40 {d : Nat} {l0 l1 : Option PV} {st : List PV} {M : Mem} {Q : Option PV → Mem → Prop} {x : Int32} : WP d 172 40 [l0, l1] (vi x :: st) M Q = (if 0 ≤ x then WP d 172 45 [l0, l1] (st) M Q else WP d 172 43 [l0, l1] (st) M Q) := w_if_ge mC_172 d172_40 (by decide)
theorem d172_43 : decode cX12_isS 43 = .ok (.iconst 1, 1) := by decide +kernel
theorem k172_43 {d : Nat} {l0 l1 : Option PV} {st : List PV} {M : Mem} {Q : Option PV → Mem → Prop} : WP d 172 43 [l0, l1] (st) M Q = WP d 172 44 [l0, l1] (vi 1 :: st) M Q := w_iconst mC_172 d172_43 (by decide)
theorem d172_44 : decode cX12_isS 44 = .ok (.ireturn, 1) := by decide +kernel
theorem k172_44 {d : Nat} {l0 l1 : Option PV} {M : Mem} {Q : Option PV → Mem → Prop} {x : Int32} (hx : x = 0 ∨ x = 1) : WP d 172 44 [l0, l1] ([vi x]) M Q = Q (some (vi x)) M := w_zret mC_172 d172_44 rfl hx
theorem d172_45 : decode cX12_isS 45 = .ok (.aload_n 0, 1) := by decide +kernel
theorem k172_45 {d x : Nat} {l1 : Option PV} {st : List PV} {M : Mem} {Q : Option PV → Mem → Prop} : WP d 172 45 [some (vr x), l1] (st) M Q = WP d 172 46 [some (vr x), l1] (vr x :: st) M Q := w1 mC_172 d172_45 rfl rfl
theorem d172_46 : decode cX12_isS 46 = .ok (.dup, 1) := by decide +kernel
theorem k172_46 {d : Nat} {l0 l1 : Option PV} {st : List PV} {M : Mem} {Q : Option PV → Mem → Prop} {x : Nat} : WP d 172 46 [l0, l1] (vr x :: st) M Q = WP d 172 47 [l0, l1] (vr x :: vr x :: st) M Q := w1 mC_172 d172_46 rfl rfl
theorem k172_46i {d : Nat} {l0 l1 : Option PV} {st : List PV} {M : Mem} {Q : Option PV → Mem → Prop} {x : Int32} : WP d 172 46 [l0, l1] (vi x :: st) M Q = WP d 172 47 [l0, l1] (vi x :: vi x :: st) M Q := w1 mC_172 d172_46 rfl rfl
theorem d172_47 : decode cX12_isS 47 = .ok (.getfield 161, 3) := by decide +kernel
theorem k172_47 {d : Nat} {l0 l1 : Option PV} {st : List PV} {M : Mem} {Q : Option PV → Mem → Prop} {r : Nat} (hk : mK M r = 12) : WP d 172 47 [l0, l1] (vr r :: st) M Q = WP d 172 50 [l0, l1] (vi (mI M r 12) :: st) M Q := w_get mC_172 d172_47 fE_12_161 rfl (by rw [hk]; rfl)
theorem d172_50 : decode cX12_isS 50 = .ok (.iconst 1, 1) := by decide +kernel
theorem k172_50 {d : Nat} {l0 l1 : Option PV} {st : List PV} {M : Mem} {Q : Option PV → Mem → Prop} : WP d 172 50 [l0, l1] (st) M Q = WP d 172 51 [l0, l1] (vi 1 :: st) M Q := w_iconst mC_172 d172_50 (by decide)
theorem d172_51 : decode cX12_isS 51 = .ok (.iadd, 1) := by decide +kernel
theorem k172_51 {d : Nat} {l0 l1 : Option PV} {st : List PV} {M : Mem} {Q : Option PV → Mem → Prop} {x y : Int32} : WP d 172 51 [l0, l1] (vi y :: vi x :: st) M Q = WP d 172 52 [l0, l1] (vi (x + y) :: st) M Q := w1 mC_172 d172_51 rfl rfl
theorem d172_52 : decode cX12_isS 52 = .ok (.putfield 161, 3) := by decide +kernel
theorem k172_52 {d : Nat} {l0 l1 : Option PV} {st : List PV} {M : Mem} {Q : Option PV → Mem → Prop} {r : Nat} {x : Int32} (hk : mK M r = 12) : WP d 172 52 [l0, l1] (vi x :: vr r :: st) M Q = WP d 172 55 [l0, l1] (st) (sI M r 12 x) Q := w_put mC_172 d172_52 fE_12_161 (by decide +kernel) (by rw [hk]; rfl)
theorem d172_55 : decode cX12_isS 55 = .ok (.aload_n 0, 1) := by decide +kernel
theorem k172_55 {d x : Nat} {l1 : Option PV} {st : List PV} {M : Mem} {Q : Option PV → Mem → Prop} : WP d 172 55 [some (vr x), l1] (st) M Q = WP d 172 56 [some (vr x), l1] (vr x :: st) M Q := w1 mC_172 d172_55 rfl rfl
theorem d172_56 : decode cX12_isS 56 = .ok (.invokevirtual 194, 3) := by decide +kernel
theorem k172_56 {d : Nat} {l0 l1 : Option PV} {st : List PV} {M : Mem} {Q : Option PV → Mem → Prop} {r : Nat} (hl : szL st ≤ 8) (hk : mK M r = 12) : WP (d + 1) 172 56 [l0, l1] (vr r :: st) M Q = WP d 171 0 [some (vr r), none] [] M (fun v M' => WP (d + 1) 172 59 [l0, l1] (psh v st) M' Q) := w_callV mC_172 d172_56 (ci := 12) rfl rfl rfl (Nat.le_of_ble_eq_true rfl) (by decide) rfl hl hk
theorem d172_59 : decode cX12_isS 59 = .ok (.ifCond .ne 5, 3) := by decide +kernel
theorem k172_59 {d : Nat} {l0 l1 : Option PV} {st : List PV} {M : Mem} {Q : Option PV → Mem → Prop} {x : Int32} : WP d 172 59 [l0, l1] (vi x :: st) M Q = (if x = 0 then WP d 172 62 [l0, l1] (st) M Q else WP d 172 64 [l0, l1] (st) M Q) := w_if_ne mC_172 d172_59 (by decide)
theorem d172_62 : decode cX12_isS 62 = .ok (.iconst 0, 1) := by decide +kernel
theorem k172_62 {d : Nat} {l0 l1 : Option PV} {st : List PV} {M : Mem} {Q : Option PV → Mem → Prop} : WP d 172 62 [l0, l1] (st) M Q = WP d 172 63 [l0, l1] (vi 0 :: st) M Q := w_iconst mC_172 d172_62 (by decide)
theorem d172_63 : decode cX12_isS 63 = .ok (.ireturn, 1) := by decide +kernel
theorem k172_63 {d : Nat} {l0 l1 : Option PV} {M : Mem} {Q : Option PV → Mem → Prop} {x : Int32} (hx : x = 0 ∨ x = 1) : WP d 172 63 [l0, l1] ([vi x]) M Q = Q (some (vi x)) M := w_zret mC_172 d172_63 rfl hx
theorem d172_64 : decode cX12_isS 64 = .ok (.aload_n 0, 1) := by decide +kernel
theorem k172_64 {d x : Nat} {l1 : Option PV} {st : List PV} {M : Mem} {Q : Option PV → Mem → Prop} : WP d 172 64 [some (vr x), l1] (st) M Q = WP d 172 65 [some (vr x), l1] (vr x :: st) M Q := w1 mC_172 d172_64 rfl rfl
theorem d172_65 : decode cX12_isS 65 = .ok (.iload_n 1, 1) := by decide +kernel
theorem k172_65 {d : Nat} {x : Int32} {l0 : Option PV} {st : List PV} {M : Mem} {Q : Option PV → Mem → Prop} : WP d 172 65 [l0, some (vi x)] (st) M Q = WP d 172 66 [l0, some (vi x)] (vi x :: st) M Q := w1 mC_172 d172_65 rfl rfl
theorem d172_66 : decode cX12_isS 66 = .ok (.invokevirtual 175, 3) := by decide +kernel
theorem k172_66 {d : Nat} {l0 l1 : Option PV} {st : List PV} {M : Mem} {Q : Option PV → Mem → Prop} {a0 : Int32} {r : Nat} (hl : szL st ≤ 8) (hk : mK M r = 12) : WP (d + 1) 172 66 [l0, l1] (vi a0 :: vr r :: st) M Q = WP d 167 0 [some (vr r), some (vi a0)] [] M (fun v M' => WP (d + 1) 172 69 [l0, l1] (psh v st) M' Q) := w_callV mC_172 d172_66 (ci := 12) rfl rfl rfl (Nat.le_of_ble_eq_true rfl) (by decide) rfl hl hk
theorem d172_69 : decode cX12_isS 69 = .ok (.pop, 1) := by decide +kernel
theorem k172_69 {d : Nat} {l0 l1 : Option PV} {st : List PV} {M : Mem} {Q : Option PV → Mem → Prop} {x : Nat} : WP d 172 69 [l0, l1] (vr x :: st) M Q = WP d 172 70 [l0, l1] (st) M Q := w1 mC_172 d172_69 rfl rfl
theorem k172_69i {d : Nat} {l0 l1 : Option PV} {st : List PV} {M : Mem} {Q : Option PV → Mem → Prop} {x : Int32} : WP d 172 69 [l0, l1] (vi x :: st) M Q = WP d 172 70 [l0, l1] (st) M Q := w1 mC_172 d172_69 rfl rfl
theorem d172_70 : decode cX12_isS 70 = .ok (.goto (-61), 3) := by decide +kernel
theorem k172_70 {d : Nat} {l0 l1 : Option PV} {st : List PV} {M : Mem} {Q : Option PV → Mem → Prop} : WP d 172 70 [l0, l1] (st) M Q = WP d 172 9 [l0, l1] (st) M Q := w_goto mC_172 d172_70 (by decide)
theorem d173_0 : decode cX12_isB 0 = .ok (.aload_n 0, 1) := by decide +kernel
theorem k173_0 {d x : Nat} {l1 : Option PV} {st : List PV} {M : Mem} {Q : Option PV → Mem → Prop} : WP d 173 0 [some (vr x), l1] (st) M Q = WP d 173 1 [some (vr x), l1] (vr x :: st) M Q := w1 mC_173 d173_0 rfl rfl
theorem d173_1 : decode cX12_isB 1 = .ok (.invokevirtual 197, 3) := by decide +kernel
theorem k173_1 {d : Nat} {l0 l1 : Option PV} {st : List PV} {M : Mem} {Q : Option PV → Mem → Prop} {r : Nat} (hl : szL st ≤ 8) (hk : mK M r = 12) : WP (d + 1) 173 1 [l0, l1] (vr r :: st) M Q = WP d 172 0 [some (vr r), none] [] M (fun v M' => WP (d + 1) 173 4 [l0, l1] (psh v st) M' Q) := w_callV mC_173 d173_1 (ci := 12) rfl rfl rfl (Nat.le_of_ble_eq_true rfl) (by decide) rfl hl hk
theorem d173_4 : decode cX12_isB 4 = .ok (.ifCond .ne 5, 3) := by decide +kernel
theorem k173_4 {d : Nat} {l0 l1 : Option PV} {st : List PV} {M : Mem} {Q : Option PV → Mem → Prop} {x : Int32} : WP d 173 4 [l0, l1] (vi x :: st) M Q = (if x = 0 then WP d 173 7 [l0, l1] (st) M Q else WP d 173 9 [l0, l1] (st) M Q) := w_if_ne mC_173 d173_4 (by decide)
theorem d173_7 : decode cX12_isB 7 = .ok (.iconst 0, 1) := by decide +kernel
theorem k173_7 {d : Nat} {l0 l1 : Option PV} {st : List PV} {M : Mem} {Q : Option PV → Mem → Prop} : WP d 173 7 [l0, l1] (st) M Q = WP d 173 8 [l0, l1] (vi 0 :: st) M Q := w_iconst mC_173 d173_7 (by decide)
theorem d173_8 : decode cX12_isB 8 = .ok (.ireturn, 1) := by decide +kernel
theorem k173_8 {d : Nat} {l0 l1 : Option PV} {M : Mem} {Q : Option PV → Mem → Prop} {x : Int32} (hx : x = 0 ∨ x = 1) : WP d 173 8 [l0, l1] ([vi x]) M Q = Q (some (vi x)) M := w_zret mC_173 d173_8 rfl hx
theorem d173_9 : decode cX12_isB 9 = .ok (.aload_n 0, 1) := by decide +kernel
theorem k173_9 {d x : Nat} {l1 : Option PV} {st : List PV} {M : Mem} {Q : Option PV → Mem → Prop} : WP d 173 9 [some (vr x), l1] (st) M Q = WP d 173 10 [some (vr x), l1] (vr x :: st) M Q := w1 mC_173 d173_9 rfl rfl
theorem d173_10 : decode cX12_isB 10 = .ok (.invokevirtual 164, 3) := by decide +kernel
theorem k173_10 {d : Nat} {l0 l1 : Option PV} {st : List PV} {M : Mem} {Q : Option PV → Mem → Prop} {r : Nat} (hl : szL st ≤ 8) (hk : mK M r = 12) : WP (d + 1) 173 10 [l0, l1] (vr r :: st) M Q = WP d 165 0 [some (vr r)] [] M (fun v M' => WP (d + 1) 173 13 [l0, l1] (psh v st) M' Q) := w_callV mC_173 d173_10 (ci := 12) rfl rfl rfl (Nat.le_of_ble_eq_true rfl) (by decide) rfl hl hk
theorem d173_13 : decode cX12_isB 13 = .ok (.bipush 60, 2) := by decide +kernel
theorem k173_13 {d : Nat} {l0 l1 : Option PV} {st : List PV} {M : Mem} {Q : Option PV → Mem → Prop} : WP d 173 13 [l0, l1] (st) M Q = WP d 173 15 [l0, l1] (vi 60 :: st) M Q := w_bipush mC_173 d173_13 (by decide)
theorem d173_15 : decode cX12_isB 15 = .ok (.if_icmp .ne 8, 3) := by decide +kernel
theorem k173_15 {d : Nat} {l0 l1 : Option PV} {st : List PV} {M : Mem} {Q : Option PV → Mem → Prop} {x y : Int32} : WP d 173 15 [l0, l1] (vi y :: vi x :: st) M Q = (if x = y then WP d 173 18 [l0, l1] (st) M Q else WP d 173 23 [l0, l1] (st) M Q) := w_ic_ne mC_173 d173_15 (by decide)
theorem d173_18 : decode cX12_isB 18 = .ok (.bipush 8, 2) := by decide +kernel
theorem k173_18 {d : Nat} {l0 l1 : Option PV} {st : List PV} {M : Mem} {Q : Option PV → Mem → Prop} : WP d 173 18 [l0, l1] (st) M Q = WP d 173 20 [l0, l1] (vi 8 :: st) M Q := w_bipush mC_173 d173_18 (by decide)
theorem d173_20 : decode cX12_isB 20 = .ok (.goto 32, 3) := by decide +kernel
theorem k173_20 {d : Nat} {l0 l1 : Option PV} {st : List PV} {M : Mem} {Q : Option PV → Mem → Prop} : WP d 173 20 [l0, l1] (st) M Q = WP d 173 52 [l0, l1] (st) M Q := w_goto mC_173 d173_20 (by decide)
theorem d173_23 : decode cX12_isB 23 = .ok (.aload_n 0, 1) := by decide +kernel
theorem k173_23 {d x : Nat} {l1 : Option PV} {st : List PV} {M : Mem} {Q : Option PV → Mem → Prop} : WP d 173 23 [some (vr x), l1] (st) M Q = WP d 173 24 [some (vr x), l1] (vr x :: st) M Q := w1 mC_173 d173_23 rfl rfl
theorem d173_24 : decode cX12_isB 24 = .ok (.invokevirtual 164, 3) := by decide +kernel
theorem k173_24 {d : Nat} {l0 l1 : Option PV} {st : List PV} {M : Mem} {Q : Option PV → Mem → Prop} {r : Nat} (hl : szL st ≤ 8) (hk : mK M r = 12) : WP (d + 1) 173 24 [l0, l1] (vr r :: st) M Q = WP d 165 0 [some (vr r)] [] M (fun v M' => WP (d + 1) 173 27 [l0, l1] (psh v st) M' Q) := w_callV mC_173 d173_24 (ci := 12) rfl rfl rfl (Nat.le_of_ble_eq_true rfl) (by decide) rfl hl hk
theorem d173_27 : decode cX12_isB 27 = .ok (.bipush 61, 2) := by decide +kernel
theorem k173_27 {d : Nat} {l0 l1 : Option PV} {st : List PV} {M : Mem} {Q : Option PV → Mem → Prop} : WP d 173 27 [l0, l1] (st) M Q = WP d 173 29 [l0, l1] (vi 61 :: st) M Q := w_bipush mC_173 d173_27 (by decide)
theorem d173_29 : decode cX12_isB 29 = .ok (.if_icmp .ne 8, 3) := by decide +kernel
theorem k173_29 {d : Nat} {l0 l1 : Option PV} {st : List PV} {M : Mem} {Q : Option PV → Mem → Prop} {x y : Int32} : WP d 173 29 [l0, l1] (vi y :: vi x :: st) M Q = (if x = y then WP d 173 32 [l0, l1] (st) M Q else WP d 173 37 [l0, l1] (st) M Q) := w_ic_ne mC_173 d173_29 (by decide)
theorem d173_32 : decode cX12_isB 32 = .ok (.bipush 9, 2) := by decide +kernel
theorem k173_32 {d : Nat} {l0 l1 : Option PV} {st : List PV} {M : Mem} {Q : Option PV → Mem → Prop} : WP d 173 32 [l0, l1] (st) M Q = WP d 173 34 [l0, l1] (vi 9 :: st) M Q := w_bipush mC_173 d173_32 (by decide)
theorem d173_34 : decode cX12_isB 34 = .ok (.goto 18, 3) := by decide +kernel
theorem k173_34 {d : Nat} {l0 l1 : Option PV} {st : List PV} {M : Mem} {Q : Option PV → Mem → Prop} : WP d 173 34 [l0, l1] (st) M Q = WP d 173 52 [l0, l1] (st) M Q := w_goto mC_173 d173_34 (by decide)
theorem d173_37 : decode cX12_isB 37 = .ok (.aload_n 0, 1) := by decide +kernel
theorem k173_37 {d x : Nat} {l1 : Option PV} {st : List PV} {M : Mem} {Q : Option PV → Mem → Prop} : WP d 173 37 [some (vr x), l1] (st) M Q = WP d 173 38 [some (vr x), l1] (vr x :: st) M Q := w1 mC_173 d173_37 rfl rfl
theorem d173_38 : decode cX12_isB 38 = .ok (.invokevirtual 164, 3) := by decide +kernel
theorem k173_38 {d : Nat} {l0 l1 : Option PV} {st : List PV} {M : Mem} {Q : Option PV → Mem → Prop} {r : Nat} (hl : szL st ≤ 8) (hk : mK M r = 12) : WP (d + 1) 173 38 [l0, l1] (vr r :: st) M Q = WP d 165 0 [some (vr r)] [] M (fun v M' => WP (d + 1) 173 41 [l0, l1] (psh v st) M' Q) := w_callV mC_173 d173_38 (ci := 12) rfl rfl rfl (Nat.le_of_ble_eq_true rfl) (by decide) rfl hl hk
theorem d173_41 : decode cX12_isB 41 = .ok (.bipush 62, 2) := by decide +kernel
theorem k173_41 {d : Nat} {l0 l1 : Option PV} {st : List PV} {M : Mem} {Q : Option PV → Mem → Prop} : WP d 173 41 [l0, l1] (st) M Q = WP d 173 43 [l0, l1] (vi 62 :: st) M Q := w_bipush mC_173 d173_41 (by decide)
theorem d173_43 : decode cX12_isB 43 = .ok (.if_icmp .ne 8, 3) := by decide +kernel
theorem k173_43 {d : Nat} {l0 l1 : Option PV} {st : List PV} {M : Mem} {Q : Option PV → Mem → Prop} {x y : Int32} : WP d 173 43 [l0, l1] (vi y :: vi x :: st) M Q = (if x = y then WP d 173 46 [l0, l1] (st) M Q else WP d 173 51 [l0, l1] (st) M Q) := w_ic_ne mC_173 d173_43 (by decide)
theorem d173_46 : decode cX12_isB 46 = .ok (.bipush 10, 2) := by decide +kernel
theorem k173_46 {d : Nat} {l0 l1 : Option PV} {st : List PV} {M : Mem} {Q : Option PV → Mem → Prop} : WP d 173 46 [l0, l1] (st) M Q = WP d 173 48 [l0, l1] (vi 10 :: st) M Q := w_bipush mC_173 d173_46 (by decide)
theorem d173_48 : decode cX12_isB 48 = .ok (.goto 4, 3) := by decide +kernel
theorem k173_48 {d : Nat} {l0 l1 : Option PV} {st : List PV} {M : Mem} {Q : Option PV → Mem → Prop} : WP d 173 48 [l0, l1] (st) M Q = WP d 173 52 [l0, l1] (st) M Q := w_goto mC_173 d173_48 (by decide)
theorem d173_51 : decode cX12_isB 51 = .ok (.iconst (-1), 1) := by decide +kernel
theorem k173_51 {d : Nat} {l0 l1 : Option PV} {st : List PV} {M : Mem} {Q : Option PV → Mem → Prop} : WP d 173 51 [l0, l1] (st) M Q = WP d 173 52 [l0, l1] (vi (-1) :: st) M Q := w_iconst mC_173 d173_51 (by decide)
theorem d173_52 : decode cX12_isB 52 = .ok (.istore_n 1, 1) := by decide +kernel
theorem k173_52 {d : Nat} {l0 l1 : Option PV} {st : List PV} {M : Mem} {Q : Option PV → Mem → Prop} {x : Int32} : WP d 173 52 [l0, l1] (vi x :: st) M Q = WP d 173 53 [l0, some (vi x)] (st) M Q := w1 mC_173 d173_52 rfl rfl
theorem d173_53 : decode cX12_isB 53 = .ok (.iload_n 1, 1) := by decide +kernel
theorem k173_53 {d : Nat} {x : Int32} {l0 : Option PV} {st : List PV} {M : Mem} {Q : Option PV → Mem → Prop} : WP d 173 53 [l0, some (vi x)] (st) M Q = WP d 173 54 [l0, some (vi x)] (vi x :: st) M Q := w1 mC_173 d173_53 rfl rfl
theorem d173_54 : decode cX12_isB 54 = .ok (.ifCond .ge 5, 3) := by decide +kernel
theorem k173_54 {d : Nat} {l0 l1 : Option PV} {st : List PV} {M : Mem} {Q : Option PV → Mem → Prop} {x : Int32} : WP d 173 54 [l0, l1] (vi x :: st) M Q = (if 0 ≤ x then WP d 173 59 [l0, l1] (st) M Q else WP d 173 57 [l0, l1] (st) M Q) := w_if_ge mC_173 d173_54 (by decide)
theorem d173_57 : decode cX12_isB 57 = .ok (.iconst 1, 1) := by decide +kernel
theorem k173_57 {d : Nat} {l0 l1 : Option PV} {st : List PV} {M : Mem} {Q : Option PV → Mem → Prop} : WP d 173 57 [l0, l1] (st) M Q = WP d 173 58 [l0, l1] (vi 1 :: st) M Q := w_iconst mC_173 d173_57 (by decide)
theorem d173_58 : decode cX12_isB 58 = .ok (.ireturn, 1) := by decide +kernel
theorem k173_58 {d : Nat} {l0 l1 : Option PV} {M : Mem} {Q : Option PV → Mem → Prop} {x : Int32} (hx : x = 0 ∨ x = 1) : WP d 173 58 [l0, l1] ([vi x]) M Q = Q (some (vi x)) M := w_zret mC_173 d173_58 rfl hx
theorem d173_59 : decode cX12_isB 59 = .ok (.aload_n 0, 1) := by decide +kernel
theorem k173_59 {d x : Nat} {l1 : Option PV} {st : List PV} {M : Mem} {Q : Option PV → Mem → Prop} : WP d 173 59 [some (vr x), l1] (st) M Q = WP d 173 60 [some (vr x), l1] (vr x :: st) M Q := w1 mC_173 d173_59 rfl rfl
theorem d173_60 : decode cX12_isB 60 = .ok (.dup, 1) := by decide +kernel
theorem k173_60 {d : Nat} {l0 l1 : Option PV} {st : List PV} {M : Mem} {Q : Option PV → Mem → Prop} {x : Nat} : WP d 173 60 [l0, l1] (vr x :: st) M Q = WP d 173 61 [l0, l1] (vr x :: vr x :: st) M Q := w1 mC_173 d173_60 rfl rfl
theorem k173_60i {d : Nat} {l0 l1 : Option PV} {st : List PV} {M : Mem} {Q : Option PV → Mem → Prop} {x : Int32} : WP d 173 60 [l0, l1] (vi x :: st) M Q = WP d 173 61 [l0, l1] (vi x :: vi x :: st) M Q := w1 mC_173 d173_60 rfl rfl
theorem d173_61 : decode cX12_isB 61 = .ok (.getfield 161, 3) := by decide +kernel
theorem k173_61 {d : Nat} {l0 l1 : Option PV} {st : List PV} {M : Mem} {Q : Option PV → Mem → Prop} {r : Nat} (hk : mK M r = 12) : WP d 173 61 [l0, l1] (vr r :: st) M Q = WP d 173 64 [l0, l1] (vi (mI M r 12) :: st) M Q := w_get mC_173 d173_61 fE_12_161 rfl (by rw [hk]; rfl)
theorem d173_64 : decode cX12_isB 64 = .ok (.iconst 1, 1) := by decide +kernel
theorem k173_64 {d : Nat} {l0 l1 : Option PV} {st : List PV} {M : Mem} {Q : Option PV → Mem → Prop} : WP d 173 64 [l0, l1] (st) M Q = WP d 173 65 [l0, l1] (vi 1 :: st) M Q := w_iconst mC_173 d173_64 (by decide)
theorem d173_65 : decode cX12_isB 65 = .ok (.iadd, 1) := by decide +kernel
theorem k173_65 {d : Nat} {l0 l1 : Option PV} {st : List PV} {M : Mem} {Q : Option PV → Mem → Prop} {x y : Int32} : WP d 173 65 [l0, l1] (vi y :: vi x :: st) M Q = WP d 173 66 [l0, l1] (vi (x + y) :: st) M Q := w1 mC_173 d173_65 rfl rfl
theorem d173_66 : decode cX12_isB 66 = .ok (.putfield 161, 3) := by decide +kernel
theorem k173_66 {d : Nat} {l0 l1 : Option PV} {st : List PV} {M : Mem} {Q : Option PV → Mem → Prop} {r : Nat} {x : Int32} (hk : mK M r = 12) : WP d 173 66 [l0, l1] (vi x :: vr r :: st) M Q = WP d 173 69 [l0, l1] (st) (sI M r 12 x) Q := w_put mC_173 d173_66 fE_12_161 (by decide +kernel) (by rw [hk]; rfl)
theorem d173_69 : decode cX12_isB 69 = .ok (.aload_n 0, 1) := by decide +kernel
theorem k173_69 {d x : Nat} {l1 : Option PV} {st : List PV} {M : Mem} {Q : Option PV → Mem → Prop} : WP d 173 69 [some (vr x), l1] (st) M Q = WP d 173 70 [some (vr x), l1] (vr x :: st) M Q := w1 mC_173 d173_69 rfl rfl
theorem d173_70 : decode cX12_isB 70 = .ok (.invokevirtual 197, 3) := by decide +kernel
theorem k173_70 {d : Nat} {l0 l1 : Option PV} {st : List PV} {M : Mem} {Q : Option PV → Mem → Prop} {r : Nat} (hl : szL st ≤ 8) (hk : mK M r = 12) : WP (d + 1) 173 70 [l0, l1] (vr r :: st) M Q = WP d 172 0 [some (vr r), none] [] M (fun v M' => WP (d + 1) 173 73 [l0, l1] (psh v st) M' Q) := w_callV mC_173 d173_70 (ci := 12) rfl rfl rfl (Nat.le_of_ble_eq_true rfl) (by decide) rfl hl hk
theorem d173_73 : decode cX12_isB 73 = .ok (.ifCond .eq 15, 3) := by decide +kernel
theorem k173_73 {d : Nat} {l0 l1 : Option PV} {st : List PV} {M : Mem} {Q : Option PV → Mem → Prop} {x : Int32} : WP d 173 73 [l0, l1] (vi x :: st) M Q = (if x = 0 then WP d 173 88 [l0, l1] (st) M Q else WP d 173 76 [l0, l1] (st) M Q) := w_if_eq mC_173 d173_73 (by decide)
theorem d173_76 : decode cX12_isB 76 = .ok (.aload_n 0, 1) := by decide +kernel
theorem k173_76 {d x : Nat} {l1 : Option PV} {st : List PV} {M : Mem} {Q : Option PV → Mem → Prop} : WP d 173 76 [some (vr x), l1] (st) M Q = WP d 173 77 [some (vr x), l1] (vr x :: st) M Q := w1 mC_173 d173_76 rfl rfl
theorem d173_77 : decode cX12_isB 77 = .ok (.iload_n 1, 1) := by decide +kernel
theorem k173_77 {d : Nat} {x : Int32} {l0 : Option PV} {st : List PV} {M : Mem} {Q : Option PV → Mem → Prop} : WP d 173 77 [l0, some (vi x)] (st) M Q = WP d 173 78 [l0, some (vi x)] (vi x :: st) M Q := w1 mC_173 d173_77 rfl rfl
theorem d173_78 : decode cX12_isB 78 = .ok (.invokevirtual 175, 3) := by decide +kernel
theorem k173_78 {d : Nat} {l0 l1 : Option PV} {st : List PV} {M : Mem} {Q : Option PV → Mem → Prop} {a0 : Int32} {r : Nat} (hl : szL st ≤ 8) (hk : mK M r = 12) : WP (d + 1) 173 78 [l0, l1] (vi a0 :: vr r :: st) M Q = WP d 167 0 [some (vr r), some (vi a0)] [] M (fun v M' => WP (d + 1) 173 81 [l0, l1] (psh v st) M' Q) := w_callV mC_173 d173_78 (ci := 12) rfl rfl rfl (Nat.le_of_ble_eq_true rfl) (by decide) rfl hl hk
theorem d173_81 : decode cX12_isB 81 = .ok (.ifCond .eq 7, 3) := by decide +kernel
theorem k173_81 {d : Nat} {l0 l1 : Option PV} {st : List PV} {M : Mem} {Q : Option PV → Mem → Prop} {x : Int32} : WP d 173 81 [l0, l1] (vi x :: st) M Q = (if x = 0 then WP d 173 88 [l0, l1] (st) M Q else WP d 173 84 [l0, l1] (st) M Q) := w_if_eq mC_173 d173_81 (by decide)
theorem d173_84 : decode cX12_isB 84 = .ok (.iconst 1, 1) := by decide +kernel
theorem k173_84 {d : Nat} {l0 l1 : Option PV} {st : List PV} {M : Mem} {Q : Option PV → Mem → Prop} : WP d 173 84 [l0, l1] (st) M Q = WP d 173 85 [l0, l1] (vi 1 :: st) M Q := w_iconst mC_173 d173_84 (by decide)
theorem d173_85 : decode cX12_isB 85 = .ok (.goto 4, 3) := by decide +kernel
theorem k173_85 {d : Nat} {l0 l1 : Option PV} {st : List PV} {M : Mem} {Q : Option PV → Mem → Prop} : WP d 173 85 [l0, l1] (st) M Q = WP d 173 89 [l0, l1] (st) M Q := w_goto mC_173 d173_85 (by decide)
theorem d173_88 : decode cX12_isB 88 = .ok (.iconst 0, 1) := by decide +kernel
theorem k173_88 {d : Nat} {l0 l1 : Option PV} {st : List PV} {M : Mem} {Q : Option PV → Mem → Prop} : WP d 173 88 [l0, l1] (st) M Q = WP d 173 89 [l0, l1] (vi 0 :: st) M Q := w_iconst mC_173 d173_88 (by decide)
theorem d173_89 : decode cX12_isB 89 = .ok (.ireturn, 1) := by decide +kernel
theorem k173_89 {d : Nat} {l0 l1 : Option PV} {M : Mem} {Q : Option PV → Mem → Prop} {x : Int32} (hx : x = 0 ∨ x = 1) : WP d 173 89 [l0, l1] ([vi x]) M Q = Q (some (vi x)) M := w_zret mC_173 d173_89 rfl hx
theorem d174_0 : decode cX12_isA 0 = .ok (.aload_n 0, 1) := by decide +kernel
theorem k174_0 {d x : Nat} {st : List PV} {M : Mem} {Q : Option PV → Mem → Prop} : WP d 174 0 [some (vr x)] (st) M Q = WP d 174 1 [some (vr x)] (vr x :: st) M Q := w1 mC_174 d174_0 rfl rfl
theorem d174_1 : decode cX12_isA 1 = .ok (.invokevirtual 200, 3) := by decide +kernel
theorem k174_1 {d : Nat} {l0 : Option PV} {st : List PV} {M : Mem} {Q : Option PV → Mem → Prop} {r : Nat} (hl : szL st ≤ 8) (hk : mK M r = 12) : WP (d + 1) 174 1 [l0] (vr r :: st) M Q = WP d 173 0 [some (vr r), none] [] M (fun v M' => WP (d + 1) 174 4 [l0] (psh v st) M' Q) := w_callV mC_174 d174_1 (ci := 12) rfl rfl rfl (Nat.le_of_ble_eq_true rfl) (by decide) rfl hl hk
theorem d174_4 : decode cX12_isA 4 = .ok (.ifCond .ne 5, 3) := by decide +kernel
theorem k174_4 {d : Nat} {l0 : Option PV} {st : List PV} {M : Mem} {Q : Option PV → Mem → Prop} {x : Int32} : WP d 174 4 [l0] (vi x :: st) M Q = (if x = 0 then WP d 174 7 [l0] (st) M Q else WP d 174 9 [l0] (st) M Q) := w_if_ne mC_174 d174_4 (by decide)
theorem d174_7 : decode cX12_isA 7 = .ok (.iconst 0, 1) := by decide +kernel
theorem k174_7 {d : Nat} {l0 : Option PV} {st : List PV} {M : Mem} {Q : Option PV → Mem → Prop} : WP d 174 7 [l0] (st) M Q = WP d 174 8 [l0] (vi 0 :: st) M Q := w_iconst mC_174 d174_7 (by decide)
theorem d174_8 : decode cX12_isA 8 = .ok (.ireturn, 1) := by decide +kernel
theorem k174_8 {d : Nat} {l0 : Option PV} {M : Mem} {Q : Option PV → Mem → Prop} {x : Int32} (hx : x = 0 ∨ x = 1) : WP d 174 8 [l0] ([vi x]) M Q = Q (some (vi x)) M := w_zret mC_174 d174_8 rfl hx
theorem d174_9 : decode cX12_isA 9 = .ok (.aload_n 0, 1) := by decide +kernel
theorem k174_9 {d x : Nat} {st : List PV} {M : Mem} {Q : Option PV → Mem → Prop} : WP d 174 9 [some (vr x)] (st) M Q = WP d 174 10 [some (vr x)] (vr x :: st) M Q := w1 mC_174 d174_9 rfl rfl
theorem d174_10 : decode cX12_isA 10 = .ok (.bipush 38, 2) := by decide +kernel
theorem k174_10 {d : Nat} {l0 : Option PV} {st : List PV} {M : Mem} {Q : Option PV → Mem → Prop} : WP d 174 10 [l0] (st) M Q = WP d 174 12 [l0] (vi 38 :: st) M Q := w_bipush mC_174 d174_10 (by decide)
theorem d174_12 : decode cX12_isA 12 = .ok (.invokevirtual 185, 3) := by decide +kernel
theorem k174_12 {d : Nat} {l0 : Option PV} {st : List PV} {M : Mem} {Q : Option PV → Mem → Prop} {a0 : Int32} {r : Nat} (hl : szL st ≤ 8) (hk : mK M r = 12) : WP (d + 1) 174 12 [l0] (vi a0 :: vr r :: st) M Q = WP d 166 0 [some (vr r), some (vi a0)] [] M (fun v M' => WP (d + 1) 174 15 [l0] (psh v st) M' Q) := w_callV mC_174 d174_12 (ci := 12) rfl rfl rfl (Nat.le_of_ble_eq_true rfl) (by decide) rfl hl hk
theorem d174_15 : decode cX12_isA 15 = .ok (.ifCond .eq 22, 3) := by decide +kernel
theorem k174_15 {d : Nat} {l0 : Option PV} {st : List PV} {M : Mem} {Q : Option PV → Mem → Prop} {x : Int32} : WP d 174 15 [l0] (vi x :: st) M Q = (if x = 0 then WP d 174 37 [l0] (st) M Q else WP d 174 18 [l0] (st) M Q) := w_if_eq mC_174 d174_15 (by decide)
theorem d174_18 : decode cX12_isA 18 = .ok (.aload_n 0, 1) := by decide +kernel
theorem k174_18 {d x : Nat} {st : List PV} {M : Mem} {Q : Option PV → Mem → Prop} : WP d 174 18 [some (vr x)] (st) M Q = WP d 174 19 [some (vr x)] (vr x :: st) M Q := w1 mC_174 d174_18 rfl rfl
theorem d174_19 : decode cX12_isA 19 = .ok (.invokevirtual 200, 3) := by decide +kernel
theorem k174_19 {d : Nat} {l0 : Option PV} {st : List PV} {M : Mem} {Q : Option PV → Mem → Prop} {r : Nat} (hl : szL st ≤ 8) (hk : mK M r = 12) : WP (d + 1) 174 19 [l0] (vr r :: st) M Q = WP d 173 0 [some (vr r), none] [] M (fun v M' => WP (d + 1) 174 22 [l0] (psh v st) M' Q) := w_callV mC_174 d174_19 (ci := 12) rfl rfl rfl (Nat.le_of_ble_eq_true rfl) (by decide) rfl hl hk
theorem d174_22 : decode cX12_isA 22 = .ok (.ifCond .ne 5, 3) := by decide +kernel
theorem k174_22 {d : Nat} {l0 : Option PV} {st : List PV} {M : Mem} {Q : Option PV → Mem → Prop} {x : Int32} : WP d 174 22 [l0] (vi x :: st) M Q = (if x = 0 then WP d 174 25 [l0] (st) M Q else WP d 174 27 [l0] (st) M Q) := w_if_ne mC_174 d174_22 (by decide)
theorem d174_25 : decode cX12_isA 25 = .ok (.iconst 0, 1) := by decide +kernel
theorem k174_25 {d : Nat} {l0 : Option PV} {st : List PV} {M : Mem} {Q : Option PV → Mem → Prop} : WP d 174 25 [l0] (st) M Q = WP d 174 26 [l0] (vi 0 :: st) M Q := w_iconst mC_174 d174_25 (by decide)
theorem d174_26 : decode cX12_isA 26 = .ok (.ireturn, 1) := by decide +kernel
theorem k174_26 {d : Nat} {l0 : Option PV} {M : Mem} {Q : Option PV → Mem → Prop} {x : Int32} (hx : x = 0 ∨ x = 1) : WP d 174 26 [l0] ([vi x]) M Q = Q (some (vi x)) M := w_zret mC_174 d174_26 rfl hx
theorem d174_27 : decode cX12_isA 27 = .ok (.aload_n 0, 1) := by decide +kernel
theorem k174_27 {d x : Nat} {st : List PV} {M : Mem} {Q : Option PV → Mem → Prop} : WP d 174 27 [some (vr x)] (st) M Q = WP d 174 28 [some (vr x)] (vr x :: st) M Q := w1 mC_174 d174_27 rfl rfl
theorem d174_28 : decode cX12_isA 28 = .ok (.bipush 7, 2) := by decide +kernel
theorem k174_28 {d : Nat} {l0 : Option PV} {st : List PV} {M : Mem} {Q : Option PV → Mem → Prop} : WP d 174 28 [l0] (st) M Q = WP d 174 30 [l0] (vi 7 :: st) M Q := w_bipush mC_174 d174_28 (by decide)
theorem d174_30 : decode cX12_isA 30 = .ok (.invokevirtual 175, 3) := by decide +kernel
theorem k174_30 {d : Nat} {l0 : Option PV} {st : List PV} {M : Mem} {Q : Option PV → Mem → Prop} {a0 : Int32} {r : Nat} (hl : szL st ≤ 8) (hk : mK M r = 12) : WP (d + 1) 174 30 [l0] (vi a0 :: vr r :: st) M Q = WP d 167 0 [some (vr r), some (vi a0)] [] M (fun v M' => WP (d + 1) 174 33 [l0] (psh v st) M' Q) := w_callV mC_174 d174_30 (ci := 12) rfl rfl rfl (Nat.le_of_ble_eq_true rfl) (by decide) rfl hl hk
theorem d174_33 : decode cX12_isA 33 = .ok (.pop, 1) := by decide +kernel
theorem k174_33 {d : Nat} {l0 : Option PV} {st : List PV} {M : Mem} {Q : Option PV → Mem → Prop} {x : Nat} : WP d 174 33 [l0] (vr x :: st) M Q = WP d 174 34 [l0] (st) M Q := w1 mC_174 d174_33 rfl rfl
theorem k174_33i {d : Nat} {l0 : Option PV} {st : List PV} {M : Mem} {Q : Option PV → Mem → Prop} {x : Int32} : WP d 174 33 [l0] (vi x :: st) M Q = WP d 174 34 [l0] (st) M Q := w1 mC_174 d174_33 rfl rfl
theorem d174_34 : decode cX12_isA 34 = .ok (.goto (-25), 3) := by decide +kernel
theorem k174_34 {d : Nat} {l0 : Option PV} {st : List PV} {M : Mem} {Q : Option PV → Mem → Prop} : WP d 174 34 [l0] (st) M Q = WP d 174 9 [l0] (st) M Q := w_goto mC_174 d174_34 (by decide)
theorem d174_37 : decode cX12_isA 37 = .ok (.iconst 1, 1) := by decide +kernel
theorem k174_37 {d : Nat} {l0 : Option PV} {st : List PV} {M : Mem} {Q : Option PV → Mem → Prop} : WP d 174 37 [l0] (st) M Q = WP d 174 38 [l0] (vi 1 :: st) M Q := w_iconst mC_174 d174_37 (by decide)
theorem d174_38 : decode cX12_isA 38 = .ok (.ireturn, 1) := by decide +kernel
theorem k174_38 {d : Nat} {l0 : Option PV} {M : Mem} {Q : Option PV → Mem → Prop} {x : Int32} (hx : x = 0 ∨ x = 1) : WP d 174 38 [l0] ([vi x]) M Q = Q (some (vi x)) M := w_zret mC_174 d174_38 rfl hx
theorem d175_0 : decode cX12_isE 0 = .ok (.aload_n 0, 1) := by decide +kernel
theorem k175_0 {d x : Nat} {st : List PV} {M : Mem} {Q : Option PV → Mem → Prop} : WP d 175 0 [some (vr x)] (st) M Q = WP d 175 1 [some (vr x)] (vr x :: st) M Q := w1 mC_175 d175_0 rfl rfl
theorem d175_1 : decode cX12_isE 1 = .ok (.invokevirtual 203, 3) := by decide +kernel
theorem k175_1 {d : Nat} {l0 : Option PV} {st : List PV} {M : Mem} {Q : Option PV → Mem → Prop} {r : Nat} (hl : szL st ≤ 8) (hk : mK M r = 12) : WP (d + 1) 175 1 [l0] (vr r :: st) M Q = WP d 174 0 [some (vr r)] [] M (fun v M' => WP (d + 1) 175 4 [l0] (psh v st) M' Q) := w_callV mC_175 d175_1 (ci := 12) rfl rfl rfl (Nat.le_of_ble_eq_true rfl) (by decide) rfl hl hk
theorem d175_4 : decode cX12_isE 4 = .ok (.ifCond .ne 5, 3) := by decide +kernel
theorem k175_4 {d : Nat} {l0 : Option PV} {st : List PV} {M : Mem} {Q : Option PV → Mem → Prop} {x : Int32} : WP d 175 4 [l0] (vi x :: st) M Q = (if x = 0 then WP d 175 7 [l0] (st) M Q else WP d 175 9 [l0] (st) M Q) := w_if_ne mC_175 d175_4 (by decide)
theorem d175_7 : decode cX12_isE 7 = .ok (.iconst 0, 1) := by decide +kernel
theorem k175_7 {d : Nat} {l0 : Option PV} {st : List PV} {M : Mem} {Q : Option PV → Mem → Prop} : WP d 175 7 [l0] (st) M Q = WP d 175 8 [l0] (vi 0 :: st) M Q := w_iconst mC_175 d175_7 (by decide)
theorem d175_8 : decode cX12_isE 8 = .ok (.ireturn, 1) := by decide +kernel
theorem k175_8 {d : Nat} {l0 : Option PV} {M : Mem} {Q : Option PV → Mem → Prop} {x : Int32} (hx : x = 0 ∨ x = 1) : WP d 175 8 [l0] ([vi x]) M Q = Q (some (vi x)) M := w_zret mC_175 d175_8 rfl hx
theorem d175_9 : decode cX12_isE 9 = .ok (.aload_n 0, 1) := by decide +kernel
theorem k175_9 {d x : Nat} {st : List PV} {M : Mem} {Q : Option PV → Mem → Prop} : WP d 175 9 [some (vr x)] (st) M Q = WP d 175 10 [some (vr x)] (vr x :: st) M Q := w1 mC_175 d175_9 rfl rfl
theorem d175_10 : decode cX12_isE 10 = .ok (.bipush 124, 2) := by decide +kernel
theorem k175_10 {d : Nat} {l0 : Option PV} {st : List PV} {M : Mem} {Q : Option PV → Mem → Prop} : WP d 175 10 [l0] (st) M Q = WP d 175 12 [l0] (vi 124 :: st) M Q := w_bipush mC_175 d175_10 (by decide)
theorem d175_12 : decode cX12_isE 12 = .ok (.invokevirtual 185, 3) := by decide +kernel
theorem k175_12 {d : Nat} {l0 : Option PV} {st : List PV} {M : Mem} {Q : Option PV → Mem → Prop} {a0 : Int32} {r : Nat} (hl : szL st ≤ 8) (hk : mK M r = 12) : WP (d + 1) 175 12 [l0] (vi a0 :: vr r :: st) M Q = WP d 166 0 [some (vr r), some (vi a0)] [] M (fun v M' => WP (d + 1) 175 15 [l0] (psh v st) M' Q) := w_callV mC_175 d175_12 (ci := 12) rfl rfl rfl (Nat.le_of_ble_eq_true rfl) (by decide) rfl hl hk
theorem d175_15 : decode cX12_isE 15 = .ok (.ifCond .eq 22, 3) := by decide +kernel
theorem k175_15 {d : Nat} {l0 : Option PV} {st : List PV} {M : Mem} {Q : Option PV → Mem → Prop} {x : Int32} : WP d 175 15 [l0] (vi x :: st) M Q = (if x = 0 then WP d 175 37 [l0] (st) M Q else WP d 175 18 [l0] (st) M Q) := w_if_eq mC_175 d175_15 (by decide)
theorem d175_18 : decode cX12_isE 18 = .ok (.aload_n 0, 1) := by decide +kernel
theorem k175_18 {d x : Nat} {st : List PV} {M : Mem} {Q : Option PV → Mem → Prop} : WP d 175 18 [some (vr x)] (st) M Q = WP d 175 19 [some (vr x)] (vr x :: st) M Q := w1 mC_175 d175_18 rfl rfl
theorem d175_19 : decode cX12_isE 19 = .ok (.invokevirtual 203, 3) := by decide +kernel
theorem k175_19 {d : Nat} {l0 : Option PV} {st : List PV} {M : Mem} {Q : Option PV → Mem → Prop} {r : Nat} (hl : szL st ≤ 8) (hk : mK M r = 12) : WP (d + 1) 175 19 [l0] (vr r :: st) M Q = WP d 174 0 [some (vr r)] [] M (fun v M' => WP (d + 1) 175 22 [l0] (psh v st) M' Q) := w_callV mC_175 d175_19 (ci := 12) rfl rfl rfl (Nat.le_of_ble_eq_true rfl) (by decide) rfl hl hk
theorem d175_22 : decode cX12_isE 22 = .ok (.ifCond .ne 5, 3) := by decide +kernel
theorem k175_22 {d : Nat} {l0 : Option PV} {st : List PV} {M : Mem} {Q : Option PV → Mem → Prop} {x : Int32} : WP d 175 22 [l0] (vi x :: st) M Q = (if x = 0 then WP d 175 25 [l0] (st) M Q else WP d 175 27 [l0] (st) M Q) := w_if_ne mC_175 d175_22 (by decide)
theorem d175_25 : decode cX12_isE 25 = .ok (.iconst 0, 1) := by decide +kernel
theorem k175_25 {d : Nat} {l0 : Option PV} {st : List PV} {M : Mem} {Q : Option PV → Mem → Prop} : WP d 175 25 [l0] (st) M Q = WP d 175 26 [l0] (vi 0 :: st) M Q := w_iconst mC_175 d175_25 (by decide)
theorem d175_26 : decode cX12_isE 26 = .ok (.ireturn, 1) := by decide +kernel
theorem k175_26 {d : Nat} {l0 : Option PV} {M : Mem} {Q : Option PV → Mem → Prop} {x : Int32} (hx : x = 0 ∨ x = 1) : WP d 175 26 [l0] ([vi x]) M Q = Q (some (vi x)) M := w_zret mC_175 d175_26 rfl hx
theorem d175_27 : decode cX12_isE 27 = .ok (.aload_n 0, 1) := by decide +kernel
theorem k175_27 {d x : Nat} {st : List PV} {M : Mem} {Q : Option PV → Mem → Prop} : WP d 175 27 [some (vr x)] (st) M Q = WP d 175 28 [some (vr x)] (vr x :: st) M Q := w1 mC_175 d175_27 rfl rfl
theorem d175_28 : decode cX12_isE 28 = .ok (.bipush 6, 2) := by decide +kernel
theorem k175_28 {d : Nat} {l0 : Option PV} {st : List PV} {M : Mem} {Q : Option PV → Mem → Prop} : WP d 175 28 [l0] (st) M Q = WP d 175 30 [l0] (vi 6 :: st) M Q := w_bipush mC_175 d175_28 (by decide)
theorem d175_30 : decode cX12_isE 30 = .ok (.invokevirtual 175, 3) := by decide +kernel
theorem k175_30 {d : Nat} {l0 : Option PV} {st : List PV} {M : Mem} {Q : Option PV → Mem → Prop} {a0 : Int32} {r : Nat} (hl : szL st ≤ 8) (hk : mK M r = 12) : WP (d + 1) 175 30 [l0] (vi a0 :: vr r :: st) M Q = WP d 167 0 [some (vr r), some (vi a0)] [] M (fun v M' => WP (d + 1) 175 33 [l0] (psh v st) M' Q) := w_callV mC_175 d175_30 (ci := 12) rfl rfl rfl (Nat.le_of_ble_eq_true rfl) (by decide) rfl hl hk
theorem d175_33 : decode cX12_isE 33 = .ok (.pop, 1) := by decide +kernel
theorem k175_33 {d : Nat} {l0 : Option PV} {st : List PV} {M : Mem} {Q : Option PV → Mem → Prop} {x : Nat} : WP d 175 33 [l0] (vr x :: st) M Q = WP d 175 34 [l0] (st) M Q := w1 mC_175 d175_33 rfl rfl
theorem k175_33i {d : Nat} {l0 : Option PV} {st : List PV} {M : Mem} {Q : Option PV → Mem → Prop} {x : Int32} : WP d 175 33 [l0] (vi x :: st) M Q = WP d 175 34 [l0] (st) M Q := w1 mC_175 d175_33 rfl rfl
theorem d175_34 : decode cX12_isE 34 = .ok (.goto (-25), 3) := by decide +kernel
theorem k175_34 {d : Nat} {l0 : Option PV} {st : List PV} {M : Mem} {Q : Option PV → Mem → Prop} : WP d 175 34 [l0] (st) M Q = WP d 175 9 [l0] (st) M Q := w_goto mC_175 d175_34 (by decide)
theorem d175_37 : decode cX12_isE 37 = .ok (.iconst 1, 1) := by decide +kernel
theorem k175_37 {d : Nat} {l0 : Option PV} {st : List PV} {M : Mem} {Q : Option PV → Mem → Prop} : WP d 175 37 [l0] (st) M Q = WP d 175 38 [l0] (vi 1 :: st) M Q := w_iconst mC_175 d175_37 (by decide)
theorem d175_38 : decode cX12_isE 38 = .ok (.ireturn, 1) := by decide +kernel
theorem k175_38 {d : Nat} {l0 : Option PV} {M : Mem} {Q : Option PV → Mem → Prop} {x : Int32} (hx : x = 0 ∨ x = 1) : WP d 175 38 [l0] ([vi x]) M Q = Q (some (vi x)) M := w_zret mC_175 d175_38 rfl hx
theorem d176_0 : decode cX12_isLine 0 = .ok (.aload_n 0, 1) := by decide +kernel
theorem k176_0 {d x : Nat} {st : List PV} {M : Mem} {Q : Option PV → Mem → Prop} : WP d 176 0 [some (vr x)] (st) M Q = WP d 176 1 [some (vr x)] (vr x :: st) M Q := w1 mC_176 d176_0 rfl rfl
theorem d176_1 : decode cX12_isLine 1 = .ok (.getfield 33, 3) := by decide +kernel
theorem k176_1 {d : Nat} {l0 : Option PV} {st : List PV} {M : Mem} {Q : Option PV → Mem → Prop} {r : Nat} (hk : mK M r = 12) : WP d 176 1 [l0] (vr r :: st) M Q = WP d 176 4 [l0] (vr (mR M r 16) :: st) M Q := w_getr mC_176 d176_1 fE_12_33 rfl (by rw [hk]; rfl)
theorem d176_4 : decode cX12_isLine 4 = .ok (.aload_n 0, 1) := by decide +kernel
theorem k176_4 {d x : Nat} {st : List PV} {M : Mem} {Q : Option PV → Mem → Prop} : WP d 176 4 [some (vr x)] (st) M Q = WP d 176 5 [some (vr x)] (vr x :: st) M Q := w1 mC_176 d176_4 rfl rfl
theorem d176_5 : decode cX12_isLine 5 = .ok (.getfield 206, 3) := by decide +kernel
theorem k176_5 {d : Nat} {l0 : Option PV} {st : List PV} {M : Mem} {Q : Option PV → Mem → Prop} {r : Nat} (hk : mK M r = 12) : WP d 176 5 [l0] (vr r :: st) M Q = WP d 176 8 [l0] (vi (mI M r 15) :: st) M Q := w_get mC_176 d176_5 fE_12_206 rfl (by rw [hk]; rfl)
theorem d176_8 : decode cX12_isLine 8 = .ok (.aload_n 0, 1) := by decide +kernel
theorem k176_8 {d x : Nat} {st : List PV} {M : Mem} {Q : Option PV → Mem → Prop} : WP d 176 8 [some (vr x)] (st) M Q = WP d 176 9 [some (vr x)] (vr x :: st) M Q := w1 mC_176 d176_8 rfl rfl
theorem d176_9 : decode cX12_isLine 9 = .ok (.getfield 168, 3) := by decide +kernel
theorem k176_9 {d : Nat} {l0 : Option PV} {st : List PV} {M : Mem} {Q : Option PV → Mem → Prop} {r : Nat} (hk : mK M r = 12) : WP d 176 9 [l0] (vr r :: st) M Q = WP d 176 12 [l0] (vi (mI M r 14) :: st) M Q := w_get mC_176 d176_9 fE_12_168 rfl (by rw [hk]; rfl)
theorem d176_12 : decode cX12_isLine 12 = .ok (.iastore, 1) := by decide +kernel
theorem k176_12 {d : Nat} {l0 : Option PV} {st : List PV} {M : Mem} {Q : Option PV → Mem → Prop} {r : Nat} {j x : Int32} (hk : mK M r = 13) (hj : inb j (mN M r)) (h1 : r ≠ 1) : WP d 176 12 [l0] (vi x :: vi j :: vr r :: st) M Q = WP d 176 13 [l0] (st) (sI M r (ix j) x) Q := w_iast mC_176 d176_12 hk hj h1
theorem d176_13 : decode cX12_isLine 13 = .ok (.aload_n 0, 1) := by decide +kernel
theorem k176_13 {d x : Nat} {st : List PV} {M : Mem} {Q : Option PV → Mem → Prop} : WP d 176 13 [some (vr x)] (st) M Q = WP d 176 14 [some (vr x)] (vr x :: st) M Q := w1 mC_176 d176_13 rfl rfl
theorem d176_14 : decode cX12_isLine 14 = .ok (.invokevirtual 191, 3) := by decide +kernel
theorem k176_14 {d : Nat} {l0 : Option PV} {st : List PV} {M : Mem} {Q : Option PV → Mem → Prop} {r : Nat} (hl : szL st ≤ 8) (hk : mK M r = 12) : WP (d + 1) 176 14 [l0] (vr r :: st) M Q = WP d 175 0 [some (vr r)] [] M (fun v M' => WP (d + 1) 176 17 [l0] (psh v st) M' Q) := w_callV mC_176 d176_14 (ci := 12) rfl rfl rfl (Nat.le_of_ble_eq_true rfl) (by decide) rfl hl hk
theorem d176_17 : decode cX12_isLine 17 = .ok (.ifCond .ne 5, 3) := by decide +kernel
theorem k176_17 {d : Nat} {l0 : Option PV} {st : List PV} {M : Mem} {Q : Option PV → Mem → Prop} {x : Int32} : WP d 176 17 [l0] (vi x :: st) M Q = (if x = 0 then WP d 176 20 [l0] (st) M Q else WP d 176 22 [l0] (st) M Q) := w_if_ne mC_176 d176_17 (by decide)
theorem d176_20 : decode cX12_isLine 20 = .ok (.iconst 0, 1) := by decide +kernel
theorem k176_20 {d : Nat} {l0 : Option PV} {st : List PV} {M : Mem} {Q : Option PV → Mem → Prop} : WP d 176 20 [l0] (st) M Q = WP d 176 21 [l0] (vi 0 :: st) M Q := w_iconst mC_176 d176_20 (by decide)
theorem d176_21 : decode cX12_isLine 21 = .ok (.ireturn, 1) := by decide +kernel
theorem k176_21 {d : Nat} {l0 : Option PV} {M : Mem} {Q : Option PV → Mem → Prop} {x : Int32} (hx : x = 0 ∨ x = 1) : WP d 176 21 [l0] ([vi x]) M Q = Q (some (vi x)) M := w_zret mC_176 d176_21 rfl hx
theorem d176_22 : decode cX12_isLine 22 = .ok (.aload_n 0, 1) := by decide +kernel
theorem k176_22 {d x : Nat} {st : List PV} {M : Mem} {Q : Option PV → Mem → Prop} : WP d 176 22 [some (vr x)] (st) M Q = WP d 176 23 [some (vr x)] (vr x :: st) M Q := w1 mC_176 d176_22 rfl rfl
theorem d176_23 : decode cX12_isLine 23 = .ok (.getfield 36, 3) := by decide +kernel
theorem k176_23 {d : Nat} {l0 : Option PV} {st : List PV} {M : Mem} {Q : Option PV → Mem → Prop} {r : Nat} (hk : mK M r = 12) : WP d 176 23 [l0] (vr r :: st) M Q = WP d 176 26 [l0] (vr (mR M r 17) :: st) M Q := w_getr mC_176 d176_23 fE_12_36 rfl (by rw [hk]; rfl)
theorem d176_26 : decode cX12_isLine 26 = .ok (.aload_n 0, 1) := by decide +kernel
theorem k176_26 {d x : Nat} {st : List PV} {M : Mem} {Q : Option PV → Mem → Prop} : WP d 176 26 [some (vr x)] (st) M Q = WP d 176 27 [some (vr x)] (vr x :: st) M Q := w1 mC_176 d176_26 rfl rfl
theorem d176_27 : decode cX12_isLine 27 = .ok (.getfield 206, 3) := by decide +kernel
theorem k176_27 {d : Nat} {l0 : Option PV} {st : List PV} {M : Mem} {Q : Option PV → Mem → Prop} {r : Nat} (hk : mK M r = 12) : WP d 176 27 [l0] (vr r :: st) M Q = WP d 176 30 [l0] (vi (mI M r 15) :: st) M Q := w_get mC_176 d176_27 fE_12_206 rfl (by rw [hk]; rfl)
theorem d176_30 : decode cX12_isLine 30 = .ok (.aload_n 0, 1) := by decide +kernel
theorem k176_30 {d x : Nat} {st : List PV} {M : Mem} {Q : Option PV → Mem → Prop} : WP d 176 30 [some (vr x)] (st) M Q = WP d 176 31 [some (vr x)] (vr x :: st) M Q := w1 mC_176 d176_30 rfl rfl
theorem d176_31 : decode cX12_isLine 31 = .ok (.getfield 33, 3) := by decide +kernel
theorem k176_31 {d : Nat} {l0 : Option PV} {st : List PV} {M : Mem} {Q : Option PV → Mem → Prop} {r : Nat} (hk : mK M r = 12) : WP d 176 31 [l0] (vr r :: st) M Q = WP d 176 34 [l0] (vr (mR M r 16) :: st) M Q := w_getr mC_176 d176_31 fE_12_33 rfl (by rw [hk]; rfl)
theorem d176_34 : decode cX12_isLine 34 = .ok (.aload_n 0, 1) := by decide +kernel
theorem k176_34 {d x : Nat} {st : List PV} {M : Mem} {Q : Option PV → Mem → Prop} : WP d 176 34 [some (vr x)] (st) M Q = WP d 176 35 [some (vr x)] (vr x :: st) M Q := w1 mC_176 d176_34 rfl rfl
theorem d176_35 : decode cX12_isLine 35 = .ok (.getfield 206, 3) := by decide +kernel
theorem k176_35 {d : Nat} {l0 : Option PV} {st : List PV} {M : Mem} {Q : Option PV → Mem → Prop} {r : Nat} (hk : mK M r = 12) : WP d 176 35 [l0] (vr r :: st) M Q = WP d 176 38 [l0] (vi (mI M r 15) :: st) M Q := w_get mC_176 d176_35 fE_12_206 rfl (by rw [hk]; rfl)
theorem d176_38 : decode cX12_isLine 38 = .ok (.iaload, 1) := by decide +kernel
theorem k176_38 {d : Nat} {l0 : Option PV} {st : List PV} {M : Mem} {Q : Option PV → Mem → Prop} {r : Nat} {j : Int32} (hk : mK M r = 13) (hj : inb j (mN M r)) (h1 : r ≠ 1) : WP d 176 38 [l0] (vi j :: vr r :: st) M Q = WP d 176 39 [l0] (vi (mI M r (ix j)) :: st) M Q := w_iald mC_176 d176_38 (by decide) hk hj h1
theorem d176_39 : decode cX12_isLine 39 = .ok (.iastore, 1) := by decide +kernel
theorem k176_39 {d : Nat} {l0 : Option PV} {st : List PV} {M : Mem} {Q : Option PV → Mem → Prop} {r : Nat} {j x : Int32} (hk : mK M r = 13) (hj : inb j (mN M r)) (h1 : r ≠ 1) : WP d 176 39 [l0] (vi x :: vi j :: vr r :: st) M Q = WP d 176 40 [l0] (st) (sI M r (ix j) x) Q := w_iast mC_176 d176_39 hk hj h1
theorem d176_40 : decode cX12_isLine 40 = .ok (.aload_n 0, 1) := by decide +kernel
theorem k176_40 {d x : Nat} {st : List PV} {M : Mem} {Q : Option PV → Mem → Prop} : WP d 176 40 [some (vr x)] (st) M Q = WP d 176 41 [some (vr x)] (vr x :: st) M Q := w1 mC_176 d176_40 rfl rfl
theorem d176_41 : decode cX12_isLine 41 = .ok (.bipush 63, 2) := by decide +kernel
theorem k176_41 {d : Nat} {l0 : Option PV} {st : List PV} {M : Mem} {Q : Option PV → Mem → Prop} : WP d 176 41 [l0] (st) M Q = WP d 176 43 [l0] (vi 63 :: st) M Q := w_bipush mC_176 d176_41 (by decide)
theorem d176_43 : decode cX12_isLine 43 = .ok (.invokevirtual 185, 3) := by decide +kernel
theorem k176_43 {d : Nat} {l0 : Option PV} {st : List PV} {M : Mem} {Q : Option PV → Mem → Prop} {a0 : Int32} {r : Nat} (hl : szL st ≤ 8) (hk : mK M r = 12) : WP (d + 1) 176 43 [l0] (vi a0 :: vr r :: st) M Q = WP d 166 0 [some (vr r), some (vi a0)] [] M (fun v M' => WP (d + 1) 176 46 [l0] (psh v st) M' Q) := w_callV mC_176 d176_43 (ci := 12) rfl rfl rfl (Nat.le_of_ble_eq_true rfl) (by decide) rfl hl hk
theorem d176_46 : decode cX12_isLine 46 = .ok (.ifCond .eq 25, 3) := by decide +kernel
theorem k176_46 {d : Nat} {l0 : Option PV} {st : List PV} {M : Mem} {Q : Option PV → Mem → Prop} {x : Int32} : WP d 176 46 [l0] (vi x :: st) M Q = (if x = 0 then WP d 176 71 [l0] (st) M Q else WP d 176 49 [l0] (st) M Q) := w_if_eq mC_176 d176_46 (by decide)
theorem d176_49 : decode cX12_isLine 49 = .ok (.aload_n 0, 1) := by decide +kernel
theorem k176_49 {d x : Nat} {st : List PV} {M : Mem} {Q : Option PV → Mem → Prop} : WP d 176 49 [some (vr x)] (st) M Q = WP d 176 50 [some (vr x)] (vr x :: st) M Q := w1 mC_176 d176_49 rfl rfl
theorem d176_50 : decode cX12_isLine 50 = .ok (.getfield 36, 3) := by decide +kernel
theorem k176_50 {d : Nat} {l0 : Option PV} {st : List PV} {M : Mem} {Q : Option PV → Mem → Prop} {r : Nat} (hk : mK M r = 12) : WP d 176 50 [l0] (vr r :: st) M Q = WP d 176 53 [l0] (vr (mR M r 17) :: st) M Q := w_getr mC_176 d176_50 fE_12_36 rfl (by rw [hk]; rfl)
theorem d176_53 : decode cX12_isLine 53 = .ok (.aload_n 0, 1) := by decide +kernel
theorem k176_53 {d x : Nat} {st : List PV} {M : Mem} {Q : Option PV → Mem → Prop} : WP d 176 53 [some (vr x)] (st) M Q = WP d 176 54 [some (vr x)] (vr x :: st) M Q := w1 mC_176 d176_53 rfl rfl
theorem d176_54 : decode cX12_isLine 54 = .ok (.getfield 206, 3) := by decide +kernel
theorem k176_54 {d : Nat} {l0 : Option PV} {st : List PV} {M : Mem} {Q : Option PV → Mem → Prop} {r : Nat} (hk : mK M r = 12) : WP d 176 54 [l0] (vr r :: st) M Q = WP d 176 57 [l0] (vi (mI M r 15) :: st) M Q := w_get mC_176 d176_54 fE_12_206 rfl (by rw [hk]; rfl)
theorem d176_57 : decode cX12_isLine 57 = .ok (.aload_n 0, 1) := by decide +kernel
theorem k176_57 {d x : Nat} {st : List PV} {M : Mem} {Q : Option PV → Mem → Prop} : WP d 176 57 [some (vr x)] (st) M Q = WP d 176 58 [some (vr x)] (vr x :: st) M Q := w1 mC_176 d176_57 rfl rfl
theorem d176_58 : decode cX12_isLine 58 = .ok (.getfield 168, 3) := by decide +kernel
theorem k176_58 {d : Nat} {l0 : Option PV} {st : List PV} {M : Mem} {Q : Option PV → Mem → Prop} {r : Nat} (hk : mK M r = 12) : WP d 176 58 [l0] (vr r :: st) M Q = WP d 176 61 [l0] (vi (mI M r 14) :: st) M Q := w_get mC_176 d176_58 fE_12_168 rfl (by rw [hk]; rfl)
theorem d176_61 : decode cX12_isLine 61 = .ok (.iastore, 1) := by decide +kernel
theorem k176_61 {d : Nat} {l0 : Option PV} {st : List PV} {M : Mem} {Q : Option PV → Mem → Prop} {r : Nat} {j x : Int32} (hk : mK M r = 13) (hj : inb j (mN M r)) (h1 : r ≠ 1) : WP d 176 61 [l0] (vi x :: vi j :: vr r :: st) M Q = WP d 176 62 [l0] (st) (sI M r (ix j) x) Q := w_iast mC_176 d176_61 hk hj h1
theorem d176_62 : decode cX12_isLine 62 = .ok (.aload_n 0, 1) := by decide +kernel
theorem k176_62 {d x : Nat} {st : List PV} {M : Mem} {Q : Option PV → Mem → Prop} : WP d 176 62 [some (vr x)] (st) M Q = WP d 176 63 [some (vr x)] (vr x :: st) M Q := w1 mC_176 d176_62 rfl rfl
theorem d176_63 : decode cX12_isLine 63 = .ok (.invokevirtual 191, 3) := by decide +kernel
theorem k176_63 {d : Nat} {l0 : Option PV} {st : List PV} {M : Mem} {Q : Option PV → Mem → Prop} {r : Nat} (hl : szL st ≤ 8) (hk : mK M r = 12) : WP (d + 1) 176 63 [l0] (vr r :: st) M Q = WP d 175 0 [some (vr r)] [] M (fun v M' => WP (d + 1) 176 66 [l0] (psh v st) M' Q) := w_callV mC_176 d176_63 (ci := 12) rfl rfl rfl (Nat.le_of_ble_eq_true rfl) (by decide) rfl hl hk
theorem d176_66 : decode cX12_isLine 66 = .ok (.ifCond .ne 5, 3) := by decide +kernel
theorem k176_66 {d : Nat} {l0 : Option PV} {st : List PV} {M : Mem} {Q : Option PV → Mem → Prop} {x : Int32} : WP d 176 66 [l0] (vi x :: st) M Q = (if x = 0 then WP d 176 69 [l0] (st) M Q else WP d 176 71 [l0] (st) M Q) := w_if_ne mC_176 d176_66 (by decide)
theorem d176_69 : decode cX12_isLine 69 = .ok (.iconst 0, 1) := by decide +kernel
theorem k176_69 {d : Nat} {l0 : Option PV} {st : List PV} {M : Mem} {Q : Option PV → Mem → Prop} : WP d 176 69 [l0] (st) M Q = WP d 176 70 [l0] (vi 0 :: st) M Q := w_iconst mC_176 d176_69 (by decide)
theorem d176_70 : decode cX12_isLine 70 = .ok (.ireturn, 1) := by decide +kernel
theorem k176_70 {d : Nat} {l0 : Option PV} {M : Mem} {Q : Option PV → Mem → Prop} {x : Int32} (hx : x = 0 ∨ x = 1) : WP d 176 70 [l0] ([vi x]) M Q = Q (some (vi x)) M := w_zret mC_176 d176_70 rfl hx
theorem d176_71 : decode cX12_isLine 71 = .ok (.aload_n 0, 1) := by decide +kernel
theorem k176_71 {d x : Nat} {st : List PV} {M : Mem} {Q : Option PV → Mem → Prop} : WP d 176 71 [some (vr x)] (st) M Q = WP d 176 72 [some (vr x)] (vr x :: st) M Q := w1 mC_176 d176_71 rfl rfl
theorem d176_72 : decode cX12_isLine 72 = .ok (.getfield 39, 3) := by decide +kernel
theorem k176_72 {d : Nat} {l0 : Option PV} {st : List PV} {M : Mem} {Q : Option PV → Mem → Prop} {r : Nat} (hk : mK M r = 12) : WP d 176 72 [l0] (vr r :: st) M Q = WP d 176 75 [l0] (vr (mR M r 18) :: st) M Q := w_getr mC_176 d176_72 fE_12_39 rfl (by rw [hk]; rfl)
theorem d176_75 : decode cX12_isLine 75 = .ok (.aload_n 0, 1) := by decide +kernel
theorem k176_75 {d x : Nat} {st : List PV} {M : Mem} {Q : Option PV → Mem → Prop} : WP d 176 75 [some (vr x)] (st) M Q = WP d 176 76 [some (vr x)] (vr x :: st) M Q := w1 mC_176 d176_75 rfl rfl
theorem d176_76 : decode cX12_isLine 76 = .ok (.dup, 1) := by decide +kernel
theorem k176_76 {d : Nat} {l0 : Option PV} {st : List PV} {M : Mem} {Q : Option PV → Mem → Prop} {x : Nat} : WP d 176 76 [l0] (vr x :: st) M Q = WP d 176 77 [l0] (vr x :: vr x :: st) M Q := w1 mC_176 d176_76 rfl rfl
theorem k176_76i {d : Nat} {l0 : Option PV} {st : List PV} {M : Mem} {Q : Option PV → Mem → Prop} {x : Int32} : WP d 176 76 [l0] (vi x :: st) M Q = WP d 176 77 [l0] (vi x :: vi x :: st) M Q := w1 mC_176 d176_76 rfl rfl
theorem d176_77 : decode cX12_isLine 77 = .ok (.getfield 206, 3) := by decide +kernel
theorem k176_77 {d : Nat} {l0 : Option PV} {st : List PV} {M : Mem} {Q : Option PV → Mem → Prop} {r : Nat} (hk : mK M r = 12) : WP d 176 77 [l0] (vr r :: st) M Q = WP d 176 80 [l0] (vi (mI M r 15) :: st) M Q := w_get mC_176 d176_77 fE_12_206 rfl (by rw [hk]; rfl)
theorem d176_80 : decode cX12_isLine 80 = .ok (.dup_x1, 1) := by decide +kernel
theorem k176_80 {d : Nat} {l0 : Option PV} {st : List PV} {M : Mem} {Q : Option PV → Mem → Prop} {a : Int32} {b : Nat} : WP d 176 80 [l0] (vi a :: vr b :: st) M Q = WP d 176 81 [l0] (vi a :: vr b :: vi a :: st) M Q := w1 mC_176 d176_80 rfl rfl
theorem d176_81 : decode cX12_isLine 81 = .ok (.iconst 1, 1) := by decide +kernel
theorem k176_81 {d : Nat} {l0 : Option PV} {st : List PV} {M : Mem} {Q : Option PV → Mem → Prop} : WP d 176 81 [l0] (st) M Q = WP d 176 82 [l0] (vi 1 :: st) M Q := w_iconst mC_176 d176_81 (by decide)
theorem d176_82 : decode cX12_isLine 82 = .ok (.iadd, 1) := by decide +kernel
theorem k176_82 {d : Nat} {l0 : Option PV} {st : List PV} {M : Mem} {Q : Option PV → Mem → Prop} {x y : Int32} : WP d 176 82 [l0] (vi y :: vi x :: st) M Q = WP d 176 83 [l0] (vi (x + y) :: st) M Q := w1 mC_176 d176_82 rfl rfl
theorem d176_83 : decode cX12_isLine 83 = .ok (.putfield 206, 3) := by decide +kernel
theorem k176_83 {d : Nat} {l0 : Option PV} {st : List PV} {M : Mem} {Q : Option PV → Mem → Prop} {r : Nat} {x : Int32} (hk : mK M r = 12) : WP d 176 83 [l0] (vi x :: vr r :: st) M Q = WP d 176 86 [l0] (st) (sI M r 15 x) Q := w_put mC_176 d176_83 fE_12_206 (by decide +kernel) (by rw [hk]; rfl)
theorem d176_86 : decode cX12_isLine 86 = .ok (.aload_n 0, 1) := by decide +kernel
theorem k176_86 {d x : Nat} {st : List PV} {M : Mem} {Q : Option PV → Mem → Prop} : WP d 176 86 [some (vr x)] (st) M Q = WP d 176 87 [some (vr x)] (vr x :: st) M Q := w1 mC_176 d176_86 rfl rfl
theorem d176_87 : decode cX12_isLine 87 = .ok (.getfield 168, 3) := by decide +kernel
theorem k176_87 {d : Nat} {l0 : Option PV} {st : List PV} {M : Mem} {Q : Option PV → Mem → Prop} {r : Nat} (hk : mK M r = 12) : WP d 176 87 [l0] (vr r :: st) M Q = WP d 176 90 [l0] (vi (mI M r 14) :: st) M Q := w_get mC_176 d176_87 fE_12_168 rfl (by rw [hk]; rfl)
theorem d176_90 : decode cX12_isLine 90 = .ok (.iastore, 1) := by decide +kernel
theorem k176_90 {d : Nat} {l0 : Option PV} {st : List PV} {M : Mem} {Q : Option PV → Mem → Prop} {r : Nat} {j x : Int32} (hk : mK M r = 13) (hj : inb j (mN M r)) (h1 : r ≠ 1) : WP d 176 90 [l0] (vi x :: vi j :: vr r :: st) M Q = WP d 176 91 [l0] (st) (sI M r (ix j) x) Q := w_iast mC_176 d176_90 hk hj h1
theorem d176_91 : decode cX12_isLine 91 = .ok (.iconst 1, 1) := by decide +kernel
theorem k176_91 {d : Nat} {l0 : Option PV} {st : List PV} {M : Mem} {Q : Option PV → Mem → Prop} : WP d 176 91 [l0] (st) M Q = WP d 176 92 [l0] (vi 1 :: st) M Q := w_iconst mC_176 d176_91 (by decide)
theorem d176_92 : decode cX12_isLine 92 = .ok (.ireturn, 1) := by decide +kernel
theorem k176_92 {d : Nat} {l0 : Option PV} {M : Mem} {Q : Option PV → Mem → Prop} {x : Int32} (hx : x = 0 ∨ x = 1) : WP d 176 92 [l0] ([vi x]) M Q = Q (some (vi x)) M := w_zret mC_176 d176_92 rfl hx
theorem d177_0 : decode cX12_law 0 = .ok (.aload_n 0, 1) := by decide +kernel
theorem k177_0 {d x : Nat} {l1 l2 l3 : Option PV} {st : List PV} {M : Mem} {Q : Option PV → Mem → Prop} : WP d 177 0 [some (vr x), l1, l2, l3] (st) M Q = WP d 177 1 [some (vr x), l1, l2, l3] (vr x :: st) M Q := w1 mC_177 d177_0 rfl rfl
theorem d177_1 : decode cX12_law 1 = .ok (.iconst 0, 1) := by decide +kernel
theorem k177_1 {d : Nat} {l0 l1 l2 l3 : Option PV} {st : List PV} {M : Mem} {Q : Option PV → Mem → Prop} : WP d 177 1 [l0, l1, l2, l3] (st) M Q = WP d 177 2 [l0, l1, l2, l3] (vi 0 :: st) M Q := w_iconst mC_177 d177_1 (by decide)
theorem d177_2 : decode cX12_law 2 = .ok (.putfield 161, 3) := by decide +kernel
theorem k177_2 {d : Nat} {l0 l1 l2 l3 : Option PV} {st : List PV} {M : Mem} {Q : Option PV → Mem → Prop} {r : Nat} {x : Int32} (hk : mK M r = 12) : WP d 177 2 [l0, l1, l2, l3] (vi x :: vr r :: st) M Q = WP d 177 5 [l0, l1, l2, l3] (st) (sI M r 12 x) Q := w_put mC_177 d177_2 fE_12_161 (by decide +kernel) (by rw [hk]; rfl)
theorem d177_5 : decode cX12_law 5 = .ok (.aload_n 0, 1) := by decide +kernel
theorem k177_5 {d x : Nat} {l1 l2 l3 : Option PV} {st : List PV} {M : Mem} {Q : Option PV → Mem → Prop} : WP d 177 5 [some (vr x), l1, l2, l3] (st) M Q = WP d 177 6 [some (vr x), l1, l2, l3] (vr x :: st) M Q := w1 mC_177 d177_5 rfl rfl
theorem d177_6 : decode cX12_law 6 = .ok (.iconst 0, 1) := by decide +kernel
theorem k177_6 {d : Nat} {l0 l1 l2 l3 : Option PV} {st : List PV} {M : Mem} {Q : Option PV → Mem → Prop} : WP d 177 6 [l0, l1, l2, l3] (st) M Q = WP d 177 7 [l0, l1, l2, l3] (vi 0 :: st) M Q := w_iconst mC_177 d177_6 (by decide)
theorem d177_7 : decode cX12_law 7 = .ok (.putfield 182, 3) := by decide +kernel
theorem k177_7 {d : Nat} {l0 l1 l2 l3 : Option PV} {st : List PV} {M : Mem} {Q : Option PV → Mem → Prop} {r : Nat} {x : Int32} (hk : mK M r = 12) : WP d 177 7 [l0, l1, l2, l3] (vi x :: vr r :: st) M Q = WP d 177 10 [l0, l1, l2, l3] (st) (sI M r 13 x) Q := w_put mC_177 d177_7 fE_12_182 (by decide +kernel) (by rw [hk]; rfl)
theorem d177_10 : decode cX12_law 10 = .ok (.aload_n 0, 1) := by decide +kernel
theorem k177_10 {d x : Nat} {l1 l2 l3 : Option PV} {st : List PV} {M : Mem} {Q : Option PV → Mem → Prop} : WP d 177 10 [some (vr x), l1, l2, l3] (st) M Q = WP d 177 11 [some (vr x), l1, l2, l3] (vr x :: st) M Q := w1 mC_177 d177_10 rfl rfl
theorem d177_11 : decode cX12_law 11 = .ok (.iconst 0, 1) := by decide +kernel
theorem k177_11 {d : Nat} {l0 l1 l2 l3 : Option PV} {st : List PV} {M : Mem} {Q : Option PV → Mem → Prop} : WP d 177 11 [l0, l1, l2, l3] (st) M Q = WP d 177 12 [l0, l1, l2, l3] (vi 0 :: st) M Q := w_iconst mC_177 d177_11 (by decide)
theorem d177_12 : decode cX12_law 12 = .ok (.putfield 168, 3) := by decide +kernel
theorem k177_12 {d : Nat} {l0 l1 l2 l3 : Option PV} {st : List PV} {M : Mem} {Q : Option PV → Mem → Prop} {r : Nat} {x : Int32} (hk : mK M r = 12) : WP d 177 12 [l0, l1, l2, l3] (vi x :: vr r :: st) M Q = WP d 177 15 [l0, l1, l2, l3] (st) (sI M r 14 x) Q := w_put mC_177 d177_12 fE_12_168 (by decide +kernel) (by rw [hk]; rfl)
theorem d177_15 : decode cX12_law 15 = .ok (.aload_n 0, 1) := by decide +kernel
theorem k177_15 {d x : Nat} {l1 l2 l3 : Option PV} {st : List PV} {M : Mem} {Q : Option PV → Mem → Prop} : WP d 177 15 [some (vr x), l1, l2, l3] (st) M Q = WP d 177 16 [some (vr x), l1, l2, l3] (vr x :: st) M Q := w1 mC_177 d177_15 rfl rfl
theorem d177_16 : decode cX12_law 16 = .ok (.iconst 0, 1) := by decide +kernel
theorem k177_16 {d : Nat} {l0 l1 l2 l3 : Option PV} {st : List PV} {M : Mem} {Q : Option PV → Mem → Prop} : WP d 177 16 [l0, l1, l2, l3] (st) M Q = WP d 177 17 [l0, l1, l2, l3] (vi 0 :: st) M Q := w_iconst mC_177 d177_16 (by decide)
theorem d177_17 : decode cX12_law 17 = .ok (.putfield 206, 3) := by decide +kernel
theorem k177_17 {d : Nat} {l0 l1 l2 l3 : Option PV} {st : List PV} {M : Mem} {Q : Option PV → Mem → Prop} {r : Nat} {x : Int32} (hk : mK M r = 12) : WP d 177 17 [l0, l1, l2, l3] (vi x :: vr r :: st) M Q = WP d 177 20 [l0, l1, l2, l3] (st) (sI M r 15 x) Q := w_put mC_177 d177_17 fE_12_206 (by decide +kernel) (by rw [hk]; rfl)
theorem d177_20 : decode cX12_law 20 = .ok (.aload_n 0, 1) := by decide +kernel
theorem k177_20 {d x : Nat} {l1 l2 l3 : Option PV} {st : List PV} {M : Mem} {Q : Option PV → Mem → Prop} : WP d 177 20 [some (vr x), l1, l2, l3] (st) M Q = WP d 177 21 [some (vr x), l1, l2, l3] (vr x :: st) M Q := w1 mC_177 d177_20 rfl rfl
theorem d177_21 : decode cX12_law 21 = .ok (.invokevirtual 209, 3) := by decide +kernel
theorem k177_21 {d : Nat} {l0 l1 l2 l3 : Option PV} {st : List PV} {M : Mem} {Q : Option PV → Mem → Prop} {r : Nat} (hl : szL st ≤ 8) (hk : mK M r = 12) : WP (d + 1) 177 21 [l0, l1, l2, l3] (vr r :: st) M Q = WP d 176 0 [some (vr r)] [] M (fun v M' => WP (d + 1) 177 24 [l0, l1, l2, l3] (psh v st) M' Q) := w_callV mC_177 d177_21 (ci := 12) rfl rfl rfl (Nat.le_of_ble_eq_true rfl) (by decide) rfl hl hk
theorem d177_24 : decode cX12_law 24 = .ok (.istore_n 1, 1) := by decide +kernel
theorem k177_24 {d : Nat} {l0 l1 l2 l3 : Option PV} {st : List PV} {M : Mem} {Q : Option PV → Mem → Prop} {x : Int32} : WP d 177 24 [l0, l1, l2, l3] (vi x :: st) M Q = WP d 177 25 [l0, some (vi x), l2, l3] (st) M Q := w1 mC_177 d177_24 rfl rfl
theorem d177_25 : decode cX12_law 25 = .ok (.iload_n 1, 1) := by decide +kernel
theorem k177_25 {d : Nat} {x : Int32} {l0 l2 l3 : Option PV} {st : List PV} {M : Mem} {Q : Option PV → Mem → Prop} : WP d 177 25 [l0, some (vi x), l2, l3] (st) M Q = WP d 177 26 [l0, some (vi x), l2, l3] (vi x :: st) M Q := w1 mC_177 d177_25 rfl rfl
theorem d177_26 : decode cX12_law 26 = .ok (.ifCond .eq 20, 3) := by decide +kernel
theorem k177_26 {d : Nat} {l0 l1 l2 l3 : Option PV} {st : List PV} {M : Mem} {Q : Option PV → Mem → Prop} {x : Int32} : WP d 177 26 [l0, l1, l2, l3] (vi x :: st) M Q = (if x = 0 then WP d 177 46 [l0, l1, l2, l3] (st) M Q else WP d 177 29 [l0, l1, l2, l3] (st) M Q) := w_if_eq mC_177 d177_26 (by decide)
theorem d177_29 : decode cX12_law 29 = .ok (.aload_n 0, 1) := by decide +kernel
theorem k177_29 {d x : Nat} {l1 l2 l3 : Option PV} {st : List PV} {M : Mem} {Q : Option PV → Mem → Prop} : WP d 177 29 [some (vr x), l1, l2, l3] (st) M Q = WP d 177 30 [some (vr x), l1, l2, l3] (vr x :: st) M Q := w1 mC_177 d177_29 rfl rfl
theorem d177_30 : decode cX12_law 30 = .ok (.bipush 59, 2) := by decide +kernel
theorem k177_30 {d : Nat} {l0 l1 l2 l3 : Option PV} {st : List PV} {M : Mem} {Q : Option PV → Mem → Prop} : WP d 177 30 [l0, l1, l2, l3] (st) M Q = WP d 177 32 [l0, l1, l2, l3] (vi 59 :: st) M Q := w_bipush mC_177 d177_30 (by decide)
theorem d177_32 : decode cX12_law 32 = .ok (.invokevirtual 185, 3) := by decide +kernel
theorem k177_32 {d : Nat} {l0 l1 l2 l3 : Option PV} {st : List PV} {M : Mem} {Q : Option PV → Mem → Prop} {a0 : Int32} {r : Nat} (hl : szL st ≤ 8) (hk : mK M r = 12) : WP (d + 1) 177 32 [l0, l1, l2, l3] (vi a0 :: vr r :: st) M Q = WP d 166 0 [some (vr r), some (vi a0)] [] M (fun v M' => WP (d + 1) 177 35 [l0, l1, l2, l3] (psh v st) M' Q) := w_callV mC_177 d177_32 (ci := 12) rfl rfl rfl (Nat.le_of_ble_eq_true rfl) (by decide) rfl hl hk
theorem d177_35 : decode cX12_law 35 = .ok (.ifCond .eq 11, 3) := by decide +kernel
theorem k177_35 {d : Nat} {l0 l1 l2 l3 : Option PV} {st : List PV} {M : Mem} {Q : Option PV → Mem → Prop} {x : Int32} : WP d 177 35 [l0, l1, l2, l3] (vi x :: st) M Q = (if x = 0 then WP d 177 46 [l0, l1, l2, l3] (st) M Q else WP d 177 38 [l0, l1, l2, l3] (st) M Q) := w_if_eq mC_177 d177_35 (by decide)
theorem d177_38 : decode cX12_law 38 = .ok (.aload_n 0, 1) := by decide +kernel
theorem k177_38 {d x : Nat} {l1 l2 l3 : Option PV} {st : List PV} {M : Mem} {Q : Option PV → Mem → Prop} : WP d 177 38 [some (vr x), l1, l2, l3] (st) M Q = WP d 177 39 [some (vr x), l1, l2, l3] (vr x :: st) M Q := w1 mC_177 d177_38 rfl rfl
theorem d177_39 : decode cX12_law 39 = .ok (.invokevirtual 209, 3) := by decide +kernel
theorem k177_39 {d : Nat} {l0 l1 l2 l3 : Option PV} {st : List PV} {M : Mem} {Q : Option PV → Mem → Prop} {r : Nat} (hl : szL st ≤ 8) (hk : mK M r = 12) : WP (d + 1) 177 39 [l0, l1, l2, l3] (vr r :: st) M Q = WP d 176 0 [some (vr r)] [] M (fun v M' => WP (d + 1) 177 42 [l0, l1, l2, l3] (psh v st) M' Q) := w_callV mC_177 d177_39 (ci := 12) rfl rfl rfl (Nat.le_of_ble_eq_true rfl) (by decide) rfl hl hk
theorem d177_42 : decode cX12_law 42 = .ok (.istore_n 1, 1) := by decide +kernel
theorem k177_42 {d : Nat} {l0 l1 l2 l3 : Option PV} {st : List PV} {M : Mem} {Q : Option PV → Mem → Prop} {x : Int32} : WP d 177 42 [l0, l1, l2, l3] (vi x :: st) M Q = WP d 177 43 [l0, some (vi x), l2, l3] (st) M Q := w1 mC_177 d177_42 rfl rfl
theorem d177_43 : decode cX12_law 43 = .ok (.goto (-18), 3) := by decide +kernel
theorem k177_43 {d : Nat} {l0 l1 l2 l3 : Option PV} {st : List PV} {M : Mem} {Q : Option PV → Mem → Prop} : WP d 177 43 [l0, l1, l2, l3] (st) M Q = WP d 177 25 [l0, l1, l2, l3] (st) M Q := w_goto mC_177 d177_43 (by decide)
theorem d177_46 : decode cX12_law 46 = .ok (.iload_n 1, 1) := by decide +kernel
theorem k177_46 {d : Nat} {x : Int32} {l0 l2 l3 : Option PV} {st : List PV} {M : Mem} {Q : Option PV → Mem → Prop} : WP d 177 46 [l0, some (vi x), l2, l3] (st) M Q = WP d 177 47 [l0, some (vi x), l2, l3] (vi x :: st) M Q := w1 mC_177 d177_46 rfl rfl
theorem d177_47 : decode cX12_law 47 = .ok (.ifCond .eq 18, 3) := by decide +kernel
theorem k177_47 {d : Nat} {l0 l1 l2 l3 : Option PV} {st : List PV} {M : Mem} {Q : Option PV → Mem → Prop} {x : Int32} : WP d 177 47 [l0, l1, l2, l3] (vi x :: st) M Q = (if x = 0 then WP d 177 65 [l0, l1, l2, l3] (st) M Q else WP d 177 50 [l0, l1, l2, l3] (st) M Q) := w_if_eq mC_177 d177_47 (by decide)
theorem d177_50 : decode cX12_law 50 = .ok (.aload_n 0, 1) := by decide +kernel
theorem k177_50 {d x : Nat} {l1 l2 l3 : Option PV} {st : List PV} {M : Mem} {Q : Option PV → Mem → Prop} : WP d 177 50 [some (vr x), l1, l2, l3] (st) M Q = WP d 177 51 [some (vr x), l1, l2, l3] (vr x :: st) M Q := w1 mC_177 d177_50 rfl rfl
theorem d177_51 : decode cX12_law 51 = .ok (.getfield 161, 3) := by decide +kernel
theorem k177_51 {d : Nat} {l0 l1 l2 l3 : Option PV} {st : List PV} {M : Mem} {Q : Option PV → Mem → Prop} {r : Nat} (hk : mK M r = 12) : WP d 177 51 [l0, l1, l2, l3] (vr r :: st) M Q = WP d 177 54 [l0, l1, l2, l3] (vi (mI M r 12) :: st) M Q := w_get mC_177 d177_51 fE_12_161 rfl (by rw [hk]; rfl)
theorem d177_54 : decode cX12_law 54 = .ok (.aload_n 0, 1) := by decide +kernel
theorem k177_54 {d x : Nat} {l1 l2 l3 : Option PV} {st : List PV} {M : Mem} {Q : Option PV → Mem → Prop} : WP d 177 54 [some (vr x), l1, l2, l3] (st) M Q = WP d 177 55 [some (vr x), l1, l2, l3] (vr x :: st) M Q := w1 mC_177 d177_54 rfl rfl
theorem d177_55 : decode cX12_law 55 = .ok (.getfield 158, 3) := by decide +kernel
theorem k177_55 {d : Nat} {l0 l1 l2 l3 : Option PV} {st : List PV} {M : Mem} {Q : Option PV → Mem → Prop} {r : Nat} (hk : mK M r = 12) : WP d 177 55 [l0, l1, l2, l3] (vr r :: st) M Q = WP d 177 58 [l0, l1, l2, l3] (vi (mI M r 4) :: st) M Q := w_get mC_177 d177_55 fE_12_158 rfl (by rw [hk]; rfl)
theorem d177_58 : decode cX12_law 58 = .ok (.if_icmp .ne 7, 3) := by decide +kernel
theorem k177_58 {d : Nat} {l0 l1 l2 l3 : Option PV} {st : List PV} {M : Mem} {Q : Option PV → Mem → Prop} {x y : Int32} : WP d 177 58 [l0, l1, l2, l3] (vi y :: vi x :: st) M Q = (if x = y then WP d 177 61 [l0, l1, l2, l3] (st) M Q else WP d 177 65 [l0, l1, l2, l3] (st) M Q) := w_ic_ne mC_177 d177_58 (by decide)
theorem d177_61 : decode cX12_law 61 = .ok (.iconst 1, 1) := by decide +kernel
theorem k177_61 {d : Nat} {l0 l1 l2 l3 : Option PV} {st : List PV} {M : Mem} {Q : Option PV → Mem → Prop} : WP d 177 61 [l0, l1, l2, l3] (st) M Q = WP d 177 62 [l0, l1, l2, l3] (vi 1 :: st) M Q := w_iconst mC_177 d177_61 (by decide)
theorem d177_62 : decode cX12_law 62 = .ok (.goto 4, 3) := by decide +kernel
theorem k177_62 {d : Nat} {l0 l1 l2 l3 : Option PV} {st : List PV} {M : Mem} {Q : Option PV → Mem → Prop} : WP d 177 62 [l0, l1, l2, l3] (st) M Q = WP d 177 66 [l0, l1, l2, l3] (st) M Q := w_goto mC_177 d177_62 (by decide)
theorem d177_65 : decode cX12_law 65 = .ok (.iconst 0, 1) := by decide +kernel
theorem k177_65 {d : Nat} {l0 l1 l2 l3 : Option PV} {st : List PV} {M : Mem} {Q : Option PV → Mem → Prop} : WP d 177 65 [l0, l1, l2, l3] (st) M Q = WP d 177 66 [l0, l1, l2, l3] (vi 0 :: st) M Q := w_iconst mC_177 d177_65 (by decide)
theorem d177_66 : decode cX12_law 66 = .ok (.istore_n 2, 1) := by decide +kernel
theorem k177_66 {d : Nat} {l0 l1 l2 l3 : Option PV} {st : List PV} {M : Mem} {Q : Option PV → Mem → Prop} {x : Int32} : WP d 177 66 [l0, l1, l2, l3] (vi x :: st) M Q = WP d 177 67 [l0, l1, some (vi x), l3] (st) M Q := w1 mC_177 d177_66 rfl rfl
theorem d177_67 : decode cX12_law 67 = .ok (.aload_n 0, 1) := by decide +kernel
theorem k177_67 {d x : Nat} {l1 l2 l3 : Option PV} {st : List PV} {M : Mem} {Q : Option PV → Mem → Prop} : WP d 177 67 [some (vr x), l1, l2, l3] (st) M Q = WP d 177 68 [some (vr x), l1, l2, l3] (vr x :: st) M Q := w1 mC_177 d177_67 rfl rfl
theorem d177_68 : decode cX12_law 68 = .ok (.iconst 0, 1) := by decide +kernel
theorem k177_68 {d : Nat} {l0 l1 l2 l3 : Option PV} {st : List PV} {M : Mem} {Q : Option PV → Mem → Prop} : WP d 177 68 [l0, l1, l2, l3] (st) M Q = WP d 177 69 [l0, l1, l2, l3] (vi 0 :: st) M Q := w_iconst mC_177 d177_68 (by decide)
theorem d177_69 : decode cX12_law 69 = .ok (.putfield 158, 3) := by decide +kernel
theorem k177_69 {d : Nat} {l0 l1 l2 l3 : Option PV} {st : List PV} {M : Mem} {Q : Option PV → Mem → Prop} {r : Nat} {x : Int32} (hk : mK M r = 12) : WP d 177 69 [l0, l1, l2, l3] (vi x :: vr r :: st) M Q = WP d 177 72 [l0, l1, l2, l3] (st) (sI M r 4 x) Q := w_put mC_177 d177_69 fE_12_158 (by decide +kernel) (by rw [hk]; rfl)
theorem d177_72 : decode cX12_law 72 = .ok (.iload_n 2, 1) := by decide +kernel
theorem k177_72 {d : Nat} {x : Int32} {l0 l1 l3 : Option PV} {st : List PV} {M : Mem} {Q : Option PV → Mem → Prop} : WP d 177 72 [l0, l1, some (vi x), l3] (st) M Q = WP d 177 73 [l0, l1, some (vi x), l3] (vi x :: st) M Q := w1 mC_177 d177_72 rfl rfl
theorem d177_73 : decode cX12_law 73 = .ok (.ifCond .ne 11, 3) := by decide +kernel
theorem k177_73 {d : Nat} {l0 l1 l2 l3 : Option PV} {st : List PV} {M : Mem} {Q : Option PV → Mem → Prop} {x : Int32} : WP d 177 73 [l0, l1, l2, l3] (vi x :: st) M Q = (if x = 0 then WP d 177 76 [l0, l1, l2, l3] (st) M Q else WP d 177 84 [l0, l1, l2, l3] (st) M Q) := w_if_ne mC_177 d177_73 (by decide)
theorem d177_76 : decode cX12_law 76 = .ok (.bipush (-100), 2) := by decide +kernel
theorem k177_76 {d : Nat} {l0 l1 l2 l3 : Option PV} {st : List PV} {M : Mem} {Q : Option PV → Mem → Prop} : WP d 177 76 [l0, l1, l2, l3] (st) M Q = WP d 177 78 [l0, l1, l2, l3] (vi (-100) :: st) M Q := w_bipush mC_177 d177_76 (by decide)
theorem d177_78 : decode cX12_law 78 = .ok (.aload_n 0, 1) := by decide +kernel
theorem k177_78 {d x : Nat} {l1 l2 l3 : Option PV} {st : List PV} {M : Mem} {Q : Option PV → Mem → Prop} : WP d 177 78 [some (vr x), l1, l2, l3] (st) M Q = WP d 177 79 [some (vr x), l1, l2, l3] (vr x :: st) M Q := w1 mC_177 d177_78 rfl rfl
theorem d177_79 : decode cX12_law 79 = .ok (.getfield 161, 3) := by decide +kernel
theorem k177_79 {d : Nat} {l0 l1 l2 l3 : Option PV} {st : List PV} {M : Mem} {Q : Option PV → Mem → Prop} {r : Nat} (hk : mK M r = 12) : WP d 177 79 [l0, l1, l2, l3] (vr r :: st) M Q = WP d 177 82 [l0, l1, l2, l3] (vi (mI M r 12) :: st) M Q := w_get mC_177 d177_79 fE_12_161 rfl (by rw [hk]; rfl)
theorem d177_82 : decode cX12_law 82 = .ok (.isub, 1) := by decide +kernel
theorem k177_82 {d : Nat} {l0 l1 l2 l3 : Option PV} {st : List PV} {M : Mem} {Q : Option PV → Mem → Prop} {x y : Int32} : WP d 177 82 [l0, l1, l2, l3] (vi y :: vi x :: st) M Q = WP d 177 83 [l0, l1, l2, l3] (vi (x - y) :: st) M Q := w1 mC_177 d177_82 rfl rfl
theorem d177_83 : decode cX12_law 83 = .ok (.ireturn, 1) := by decide +kernel
theorem k177_83 {d : Nat} {l0 l1 l2 l3 : Option PV} {M : Mem} {Q : Option PV → Mem → Prop} {x : Int32} : WP d 177 83 [l0, l1, l2, l3] ([vi x]) M Q = Q (some (vi x)) M := w_iret mC_177 d177_83 rfl
theorem d177_84 : decode cX12_law 84 = .ok (.aload_n 0, 1) := by decide +kernel
theorem k177_84 {d x : Nat} {l1 l2 l3 : Option PV} {st : List PV} {M : Mem} {Q : Option PV → Mem → Prop} : WP d 177 84 [some (vr x), l1, l2, l3] (st) M Q = WP d 177 85 [some (vr x), l1, l2, l3] (vr x :: st) M Q := w1 mC_177 d177_84 rfl rfl
theorem d177_85 : decode cX12_law 85 = .ok (.iconst 1, 1) := by decide +kernel
theorem k177_85 {d : Nat} {l0 l1 l2 l3 : Option PV} {st : List PV} {M : Mem} {Q : Option PV → Mem → Prop} : WP d 177 85 [l0, l1, l2, l3] (st) M Q = WP d 177 86 [l0, l1, l2, l3] (vi 1 :: st) M Q := w_iconst mC_177 d177_85 (by decide)
theorem d177_86 : decode cX12_law 86 = .ok (.putfield 212, 3) := by decide +kernel
theorem k177_86 {d : Nat} {l0 l1 l2 l3 : Option PV} {st : List PV} {M : Mem} {Q : Option PV → Mem → Prop} {r : Nat} {x : Int32} (hk : mK M r = 12) (hx : x = 0 ∨ x = 1) : WP d 177 86 [l0, l1, l2, l3] (vi x :: vr r :: st) M Q = WP d 177 89 [l0, l1, l2, l3] (st) (sI M r 6 x) Q := w_putb mC_177 d177_86 fE_12_212 (by decide +kernel) (by rw [hk]; rfl) hx
theorem d177_89 : decode cX12_law 89 = .ok (.aload_n 0, 1) := by decide +kernel
theorem k177_89 {d x : Nat} {l1 l2 l3 : Option PV} {st : List PV} {M : Mem} {Q : Option PV → Mem → Prop} : WP d 177 89 [some (vr x), l1, l2, l3] (st) M Q = WP d 177 90 [some (vr x), l1, l2, l3] (vr x :: st) M Q := w1 mC_177 d177_89 rfl rfl
theorem d177_90 : decode cX12_law 90 = .ok (.aload_n 0, 1) := by decide +kernel
theorem k177_90 {d x : Nat} {l1 l2 l3 : Option PV} {st : List PV} {M : Mem} {Q : Option PV → Mem → Prop} : WP d 177 90 [some (vr x), l1, l2, l3] (st) M Q = WP d 177 91 [some (vr x), l1, l2, l3] (vr x :: st) M Q := w1 mC_177 d177_90 rfl rfl
theorem d177_91 : decode cX12_law 91 = .ok (.getfield 206, 3) := by decide +kernel
theorem k177_91 {d : Nat} {l0 l1 l2 l3 : Option PV} {st : List PV} {M : Mem} {Q : Option PV → Mem → Prop} {r : Nat} (hk : mK M r = 12) : WP d 177 91 [l0, l1, l2, l3] (vr r :: st) M Q = WP d 177 94 [l0, l1, l2, l3] (vi (mI M r 15) :: st) M Q := w_get mC_177 d177_91 fE_12_206 rfl (by rw [hk]; rfl)
theorem d177_94 : decode cX12_law 94 = .ok (.putfield 216, 3) := by decide +kernel
theorem k177_94 {d : Nat} {l0 l1 l2 l3 : Option PV} {st : List PV} {M : Mem} {Q : Option PV → Mem → Prop} {r : Nat} {x : Int32} (hk : mK M r = 12) : WP d 177 94 [l0, l1, l2, l3] (vi x :: vr r :: st) M Q = WP d 177 97 [l0, l1, l2, l3] (st) (sI M r 7 x) Q := w_put mC_177 d177_94 fE_12_216 (by decide +kernel) (by rw [hk]; rfl)
theorem d177_97 : decode cX12_law 97 = .ok (.iconst 0, 1) := by decide +kernel
theorem k177_97 {d : Nat} {l0 l1 l2 l3 : Option PV} {st : List PV} {M : Mem} {Q : Option PV → Mem → Prop} : WP d 177 97 [l0, l1, l2, l3] (st) M Q = WP d 177 98 [l0, l1, l2, l3] (vi 0 :: st) M Q := w_iconst mC_177 d177_97 (by decide)
theorem d177_98 : decode cX12_law 98 = .ok (.istore_n 3, 1) := by decide +kernel
theorem k177_98 {d : Nat} {l0 l1 l2 l3 : Option PV} {st : List PV} {M : Mem} {Q : Option PV → Mem → Prop} {x : Int32} : WP d 177 98 [l0, l1, l2, l3] (vi x :: st) M Q = WP d 177 99 [l0, l1, l2, some (vi x)] (st) M Q := w1 mC_177 d177_98 rfl rfl
theorem d177_99 : decode cX12_law 99 = .ok (.iload_n 3, 1) := by decide +kernel
theorem k177_99 {d : Nat} {x : Int32} {l0 l1 l2 : Option PV} {st : List PV} {M : Mem} {Q : Option PV → Mem → Prop} : WP d 177 99 [l0, l1, l2, some (vi x)] (st) M Q = WP d 177 100 [l0, l1, l2, some (vi x)] (vi x :: st) M Q := w1 mC_177 d177_99 rfl rfl
theorem d177_100 : decode cX12_law 100 = .ok (.aload_n 0, 1) := by decide +kernel
theorem k177_100 {d x : Nat} {l1 l2 l3 : Option PV} {st : List PV} {M : Mem} {Q : Option PV → Mem → Prop} : WP d 177 100 [some (vr x), l1, l2, l3] (st) M Q = WP d 177 101 [some (vr x), l1, l2, l3] (vr x :: st) M Q := w1 mC_177 d177_100 rfl rfl
theorem d177_101 : decode cX12_law 101 = .ok (.getfield 216, 3) := by decide +kernel
theorem k177_101 {d : Nat} {l0 l1 l2 l3 : Option PV} {st : List PV} {M : Mem} {Q : Option PV → Mem → Prop} {r : Nat} (hk : mK M r = 12) : WP d 177 101 [l0, l1, l2, l3] (vr r :: st) M Q = WP d 177 104 [l0, l1, l2, l3] (vi (mI M r 7) :: st) M Q := w_get mC_177 d177_101 fE_12_216 rfl (by rw [hk]; rfl)
theorem d177_104 : decode cX12_law 104 = .ok (.if_icmp .ge 45, 3) := by decide +kernel
theorem k177_104 {d : Nat} {l0 l1 l2 l3 : Option PV} {st : List PV} {M : Mem} {Q : Option PV → Mem → Prop} {x y : Int32} : WP d 177 104 [l0, l1, l2, l3] (vi y :: vi x :: st) M Q = (if y ≤ x then WP d 177 149 [l0, l1, l2, l3] (st) M Q else WP d 177 107 [l0, l1, l2, l3] (st) M Q) := w_ic_ge mC_177 d177_104 (by decide)
theorem d177_107 : decode cX12_law 107 = .ok (.aload_n 0, 1) := by decide +kernel
theorem k177_107 {d x : Nat} {l1 l2 l3 : Option PV} {st : List PV} {M : Mem} {Q : Option PV → Mem → Prop} : WP d 177 107 [some (vr x), l1, l2, l3] (st) M Q = WP d 177 108 [some (vr x), l1, l2, l3] (vr x :: st) M Q := w1 mC_177 d177_107 rfl rfl
theorem d177_108 : decode cX12_law 108 = .ok (.getfield 21, 3) := by decide +kernel
theorem k177_108 {d : Nat} {l0 l1 l2 l3 : Option PV} {st : List PV} {M : Mem} {Q : Option PV → Mem → Prop} {r : Nat} (hk : mK M r = 12) : WP d 177 108 [l0, l1, l2, l3] (vr r :: st) M Q = WP d 177 111 [l0, l1, l2, l3] (vr (mR M r 8) :: st) M Q := w_getr mC_177 d177_108 fE_12_21 rfl (by rw [hk]; rfl)
theorem d177_111 : decode cX12_law 111 = .ok (.iload_n 3, 1) := by decide +kernel
theorem k177_111 {d : Nat} {x : Int32} {l0 l1 l2 : Option PV} {st : List PV} {M : Mem} {Q : Option PV → Mem → Prop} : WP d 177 111 [l0, l1, l2, some (vi x)] (st) M Q = WP d 177 112 [l0, l1, l2, some (vi x)] (vi x :: st) M Q := w1 mC_177 d177_111 rfl rfl
theorem d177_112 : decode cX12_law 112 = .ok (.aload_n 0, 1) := by decide +kernel
theorem k177_112 {d x : Nat} {l1 l2 l3 : Option PV} {st : List PV} {M : Mem} {Q : Option PV → Mem → Prop} : WP d 177 112 [some (vr x), l1, l2, l3] (st) M Q = WP d 177 113 [some (vr x), l1, l2, l3] (vr x :: st) M Q := w1 mC_177 d177_112 rfl rfl
theorem d177_113 : decode cX12_law 113 = .ok (.getfield 33, 3) := by decide +kernel
theorem k177_113 {d : Nat} {l0 l1 l2 l3 : Option PV} {st : List PV} {M : Mem} {Q : Option PV → Mem → Prop} {r : Nat} (hk : mK M r = 12) : WP d 177 113 [l0, l1, l2, l3] (vr r :: st) M Q = WP d 177 116 [l0, l1, l2, l3] (vr (mR M r 16) :: st) M Q := w_getr mC_177 d177_113 fE_12_33 rfl (by rw [hk]; rfl)
theorem d177_116 : decode cX12_law 116 = .ok (.iload_n 3, 1) := by decide +kernel
theorem k177_116 {d : Nat} {x : Int32} {l0 l1 l2 : Option PV} {st : List PV} {M : Mem} {Q : Option PV → Mem → Prop} : WP d 177 116 [l0, l1, l2, some (vi x)] (st) M Q = WP d 177 117 [l0, l1, l2, some (vi x)] (vi x :: st) M Q := w1 mC_177 d177_116 rfl rfl
theorem d177_117 : decode cX12_law 117 = .ok (.iaload, 1) := by decide +kernel
theorem k177_117 {d : Nat} {l0 l1 l2 l3 : Option PV} {st : List PV} {M : Mem} {Q : Option PV → Mem → Prop} {r : Nat} {j : Int32} (hk : mK M r = 13) (hj : inb j (mN M r)) (h1 : r ≠ 1) : WP d 177 117 [l0, l1, l2, l3] (vi j :: vr r :: st) M Q = WP d 177 118 [l0, l1, l2, l3] (vi (mI M r (ix j)) :: st) M Q := w_iald mC_177 d177_117 (by decide) hk hj h1
theorem d177_118 : decode cX12_law 118 = .ok (.iastore, 1) := by decide +kernel
theorem k177_118 {d : Nat} {l0 l1 l2 l3 : Option PV} {st : List PV} {M : Mem} {Q : Option PV → Mem → Prop} {r : Nat} {j x : Int32} (hk : mK M r = 13) (hj : inb j (mN M r)) (h1 : r ≠ 1) : WP d 177 118 [l0, l1, l2, l3] (vi x :: vi j :: vr r :: st) M Q = WP d 177 119 [l0, l1, l2, l3] (st) (sI M r (ix j) x) Q := w_iast mC_177 d177_118 hk hj h1
theorem d177_119 : decode cX12_law 119 = .ok (.aload_n 0, 1) := by decide +kernel
theorem k177_119 {d x : Nat} {l1 l2 l3 : Option PV} {st : List PV} {M : Mem} {Q : Option PV → Mem → Prop} : WP d 177 119 [some (vr x), l1, l2, l3] (st) M Q = WP d 177 120 [some (vr x), l1, l2, l3] (vr x :: st) M Q := w1 mC_177 d177_119 rfl rfl
theorem d177_120 : decode cX12_law 120 = .ok (.getfield 24, 3) := by decide +kernel
theorem k177_120 {d : Nat} {l0 l1 l2 l3 : Option PV} {st : List PV} {M : Mem} {Q : Option PV → Mem → Prop} {r : Nat} (hk : mK M r = 12) : WP d 177 120 [l0, l1, l2, l3] (vr r :: st) M Q = WP d 177 123 [l0, l1, l2, l3] (vr (mR M r 9) :: st) M Q := w_getr mC_177 d177_120 fE_12_24 rfl (by rw [hk]; rfl)
theorem d177_123 : decode cX12_law 123 = .ok (.iload_n 3, 1) := by decide +kernel
theorem k177_123 {d : Nat} {x : Int32} {l0 l1 l2 : Option PV} {st : List PV} {M : Mem} {Q : Option PV → Mem → Prop} : WP d 177 123 [l0, l1, l2, some (vi x)] (st) M Q = WP d 177 124 [l0, l1, l2, some (vi x)] (vi x :: st) M Q := w1 mC_177 d177_123 rfl rfl
theorem d177_124 : decode cX12_law 124 = .ok (.aload_n 0, 1) := by decide +kernel
theorem k177_124 {d x : Nat} {l1 l2 l3 : Option PV} {st : List PV} {M : Mem} {Q : Option PV → Mem → Prop} : WP d 177 124 [some (vr x), l1, l2, l3] (st) M Q = WP d 177 125 [some (vr x), l1, l2, l3] (vr x :: st) M Q := w1 mC_177 d177_124 rfl rfl
theorem d177_125 : decode cX12_law 125 = .ok (.getfield 36, 3) := by decide +kernel
theorem k177_125 {d : Nat} {l0 l1 l2 l3 : Option PV} {st : List PV} {M : Mem} {Q : Option PV → Mem → Prop} {r : Nat} (hk : mK M r = 12) : WP d 177 125 [l0, l1, l2, l3] (vr r :: st) M Q = WP d 177 128 [l0, l1, l2, l3] (vr (mR M r 17) :: st) M Q := w_getr mC_177 d177_125 fE_12_36 rfl (by rw [hk]; rfl)
theorem d177_128 : decode cX12_law 128 = .ok (.iload_n 3, 1) := by decide +kernel
theorem k177_128 {d : Nat} {x : Int32} {l0 l1 l2 : Option PV} {st : List PV} {M : Mem} {Q : Option PV → Mem → Prop} : WP d 177 128 [l0, l1, l2, some (vi x)] (st) M Q = WP d 177 129 [l0, l1, l2, some (vi x)] (vi x :: st) M Q := w1 mC_177 d177_128 rfl rfl
theorem d177_129 : decode cX12_law 129 = .ok (.iaload, 1) := by decide +kernel
theorem k177_129 {d : Nat} {l0 l1 l2 l3 : Option PV} {st : List PV} {M : Mem} {Q : Option PV → Mem → Prop} {r : Nat} {j : Int32} (hk : mK M r = 13) (hj : inb j (mN M r)) (h1 : r ≠ 1) : WP d 177 129 [l0, l1, l2, l3] (vi j :: vr r :: st) M Q = WP d 177 130 [l0, l1, l2, l3] (vi (mI M r (ix j)) :: st) M Q := w_iald mC_177 d177_129 (by decide) hk hj h1
theorem d177_130 : decode cX12_law 130 = .ok (.iastore, 1) := by decide +kernel
theorem k177_130 {d : Nat} {l0 l1 l2 l3 : Option PV} {st : List PV} {M : Mem} {Q : Option PV → Mem → Prop} {r : Nat} {j x : Int32} (hk : mK M r = 13) (hj : inb j (mN M r)) (h1 : r ≠ 1) : WP d 177 130 [l0, l1, l2, l3] (vi x :: vi j :: vr r :: st) M Q = WP d 177 131 [l0, l1, l2, l3] (st) (sI M r (ix j) x) Q := w_iast mC_177 d177_130 hk hj h1
theorem d177_131 : decode cX12_law 131 = .ok (.aload_n 0, 1) := by decide +kernel
theorem k177_131 {d x : Nat} {l1 l2 l3 : Option PV} {st : List PV} {M : Mem} {Q : Option PV → Mem → Prop} : WP d 177 131 [some (vr x), l1, l2, l3] (st) M Q = WP d 177 132 [some (vr x), l1, l2, l3] (vr x :: st) M Q := w1 mC_177 d177_131 rfl rfl
theorem d177_132 : decode cX12_law 132 = .ok (.getfield 27, 3) := by decide +kernel
theorem k177_132 {d : Nat} {l0 l1 l2 l3 : Option PV} {st : List PV} {M : Mem} {Q : Option PV → Mem → Prop} {r : Nat} (hk : mK M r = 12) : WP d 177 132 [l0, l1, l2, l3] (vr r :: st) M Q = WP d 177 135 [l0, l1, l2, l3] (vr (mR M r 10) :: st) M Q := w_getr mC_177 d177_132 fE_12_27 rfl (by rw [hk]; rfl)
theorem d177_135 : decode cX12_law 135 = .ok (.iload_n 3, 1) := by decide +kernel
theorem k177_135 {d : Nat} {x : Int32} {l0 l1 l2 : Option PV} {st : List PV} {M : Mem} {Q : Option PV → Mem → Prop} : WP d 177 135 [l0, l1, l2, some (vi x)] (st) M Q = WP d 177 136 [l0, l1, l2, some (vi x)] (vi x :: st) M Q := w1 mC_177 d177_135 rfl rfl
theorem d177_136 : decode cX12_law 136 = .ok (.aload_n 0, 1) := by decide +kernel
theorem k177_136 {d x : Nat} {l1 l2 l3 : Option PV} {st : List PV} {M : Mem} {Q : Option PV → Mem → Prop} : WP d 177 136 [some (vr x), l1, l2, l3] (st) M Q = WP d 177 137 [some (vr x), l1, l2, l3] (vr x :: st) M Q := w1 mC_177 d177_136 rfl rfl
theorem d177_137 : decode cX12_law 137 = .ok (.getfield 39, 3) := by decide +kernel
theorem k177_137 {d : Nat} {l0 l1 l2 l3 : Option PV} {st : List PV} {M : Mem} {Q : Option PV → Mem → Prop} {r : Nat} (hk : mK M r = 12) : WP d 177 137 [l0, l1, l2, l3] (vr r :: st) M Q = WP d 177 140 [l0, l1, l2, l3] (vr (mR M r 18) :: st) M Q := w_getr mC_177 d177_137 fE_12_39 rfl (by rw [hk]; rfl)
theorem d177_140 : decode cX12_law 140 = .ok (.iload_n 3, 1) := by decide +kernel
theorem k177_140 {d : Nat} {x : Int32} {l0 l1 l2 : Option PV} {st : List PV} {M : Mem} {Q : Option PV → Mem → Prop} : WP d 177 140 [l0, l1, l2, some (vi x)] (st) M Q = WP d 177 141 [l0, l1, l2, some (vi x)] (vi x :: st) M Q := w1 mC_177 d177_140 rfl rfl
theorem d177_141 : decode cX12_law 141 = .ok (.iaload, 1) := by decide +kernel
theorem k177_141 {d : Nat} {l0 l1 l2 l3 : Option PV} {st : List PV} {M : Mem} {Q : Option PV → Mem → Prop} {r : Nat} {j : Int32} (hk : mK M r = 13) (hj : inb j (mN M r)) (h1 : r ≠ 1) : WP d 177 141 [l0, l1, l2, l3] (vi j :: vr r :: st) M Q = WP d 177 142 [l0, l1, l2, l3] (vi (mI M r (ix j)) :: st) M Q := w_iald mC_177 d177_141 (by decide) hk hj h1
theorem d177_142 : decode cX12_law 142 = .ok (.iastore, 1) := by decide +kernel
theorem k177_142 {d : Nat} {l0 l1 l2 l3 : Option PV} {st : List PV} {M : Mem} {Q : Option PV → Mem → Prop} {r : Nat} {j x : Int32} (hk : mK M r = 13) (hj : inb j (mN M r)) (h1 : r ≠ 1) : WP d 177 142 [l0, l1, l2, l3] (vi x :: vi j :: vr r :: st) M Q = WP d 177 143 [l0, l1, l2, l3] (st) (sI M r (ix j) x) Q := w_iast mC_177 d177_142 hk hj h1
theorem d177_143 : decode cX12_law 143 = .ok (.iinc 3 1, 3) := by decide +kernel
theorem k177_143 {d : Nat} {x : Int32} {l0 l1 l2 : Option PV} {st : List PV} {M : Mem} {Q : Option PV → Mem → Prop} : WP d 177 143 [l0, l1, l2, some (vi x)] (st) M Q = WP d 177 146 [l0, l1, l2, some (vi (x + 1))] (st) M Q := w_iinc mC_177 d177_143 rfl (by decide) rfl
theorem d177_146 : decode cX12_law 146 = .ok (.goto (-47), 3) := by decide +kernel
theorem k177_146 {d : Nat} {l0 l1 l2 l3 : Option PV} {st : List PV} {M : Mem} {Q : Option PV → Mem → Prop} : WP d 177 146 [l0, l1, l2, l3] (st) M Q = WP d 177 99 [l0, l1, l2, l3] (st) M Q := w_goto mC_177 d177_146 (by decide)
theorem d177_149 : decode cX12_law 149 = .ok (.iconst 0, 1) := by decide +kernel
theorem k177_149 {d : Nat} {l0 l1 l2 l3 : Option PV} {st : List PV} {M : Mem} {Q : Option PV → Mem → Prop} : WP d 177 149 [l0, l1, l2, l3] (st) M Q = WP d 177 150 [l0, l1, l2, l3] (vi 0 :: st) M Q := w_iconst mC_177 d177_149 (by decide)
theorem d177_150 : decode cX12_law 150 = .ok (.istore_n 3, 1) := by decide +kernel
theorem k177_150 {d : Nat} {l0 l1 l2 l3 : Option PV} {st : List PV} {M : Mem} {Q : Option PV → Mem → Prop} {x : Int32} : WP d 177 150 [l0, l1, l2, l3] (vi x :: st) M Q = WP d 177 151 [l0, l1, l2, some (vi x)] (st) M Q := w1 mC_177 d177_150 rfl rfl
theorem d177_151 : decode cX12_law 151 = .ok (.iload_n 3, 1) := by decide +kernel
theorem k177_151 {d : Nat} {x : Int32} {l0 l1 l2 : Option PV} {st : List PV} {M : Mem} {Q : Option PV → Mem → Prop} : WP d 177 151 [l0, l1, l2, some (vi x)] (st) M Q = WP d 177 152 [l0, l1, l2, some (vi x)] (vi x :: st) M Q := w1 mC_177 d177_151 rfl rfl
theorem d177_152 : decode cX12_law 152 = .ok (.aload_n 0, 1) := by decide +kernel
theorem k177_152 {d x : Nat} {l1 l2 l3 : Option PV} {st : List PV} {M : Mem} {Q : Option PV → Mem → Prop} : WP d 177 152 [some (vr x), l1, l2, l3] (st) M Q = WP d 177 153 [some (vr x), l1, l2, l3] (vr x :: st) M Q := w1 mC_177 d177_152 rfl rfl
theorem d177_153 : decode cX12_law 153 = .ok (.getfield 168, 3) := by decide +kernel
theorem k177_153 {d : Nat} {l0 l1 l2 l3 : Option PV} {st : List PV} {M : Mem} {Q : Option PV → Mem → Prop} {r : Nat} (hk : mK M r = 12) : WP d 177 153 [l0, l1, l2, l3] (vr r :: st) M Q = WP d 177 156 [l0, l1, l2, l3] (vi (mI M r 14) :: st) M Q := w_get mC_177 d177_153 fE_12_168 rfl (by rw [hk]; rfl)
theorem d177_156 : decode cX12_law 156 = .ok (.if_icmp .ge 21, 3) := by decide +kernel
theorem k177_156 {d : Nat} {l0 l1 l2 l3 : Option PV} {st : List PV} {M : Mem} {Q : Option PV → Mem → Prop} {x y : Int32} : WP d 177 156 [l0, l1, l2, l3] (vi y :: vi x :: st) M Q = (if y ≤ x then WP d 177 177 [l0, l1, l2, l3] (st) M Q else WP d 177 159 [l0, l1, l2, l3] (st) M Q) := w_ic_ge mC_177 d177_156 (by decide)
theorem d177_159 : decode cX12_law 159 = .ok (.aload_n 0, 1) := by decide +kernel
theorem k177_159 {d x : Nat} {l1 l2 l3 : Option PV} {st : List PV} {M : Mem} {Q : Option PV → Mem → Prop} : WP d 177 159 [some (vr x), l1, l2, l3] (st) M Q = WP d 177 160 [some (vr x), l1, l2, l3] (vr x :: st) M Q := w1 mC_177 d177_159 rfl rfl
theorem d177_160 : decode cX12_law 160 = .ok (.getfield 30, 3) := by decide +kernel
theorem k177_160 {d : Nat} {l0 l1 l2 l3 : Option PV} {st : List PV} {M : Mem} {Q : Option PV → Mem → Prop} {r : Nat} (hk : mK M r = 12) : WP d 177 160 [l0, l1, l2, l3] (vr r :: st) M Q = WP d 177 163 [l0, l1, l2, l3] (vr (mR M r 11) :: st) M Q := w_getr mC_177 d177_160 fE_12_30 rfl (by rw [hk]; rfl)
theorem d177_163 : decode cX12_law 163 = .ok (.iload_n 3, 1) := by decide +kernel
theorem k177_163 {d : Nat} {x : Int32} {l0 l1 l2 : Option PV} {st : List PV} {M : Mem} {Q : Option PV → Mem → Prop} : WP d 177 163 [l0, l1, l2, some (vi x)] (st) M Q = WP d 177 164 [l0, l1, l2, some (vi x)] (vi x :: st) M Q := w1 mC_177 d177_163 rfl rfl
theorem d177_164 : decode cX12_law 164 = .ok (.aload_n 0, 1) := by decide +kernel
theorem k177_164 {d x : Nat} {l1 l2 l3 : Option PV} {st : List PV} {M : Mem} {Q : Option PV → Mem → Prop} : WP d 177 164 [some (vr x), l1, l2, l3] (st) M Q = WP d 177 165 [some (vr x), l1, l2, l3] (vr x :: st) M Q := w1 mC_177 d177_164 rfl rfl
theorem d177_165 : decode cX12_law 165 = .ok (.getfield 42, 3) := by decide +kernel
theorem k177_165 {d : Nat} {l0 l1 l2 l3 : Option PV} {st : List PV} {M : Mem} {Q : Option PV → Mem → Prop} {r : Nat} (hk : mK M r = 12) : WP d 177 165 [l0, l1, l2, l3] (vr r :: st) M Q = WP d 177 168 [l0, l1, l2, l3] (vr (mR M r 19) :: st) M Q := w_getr mC_177 d177_165 fE_12_42 rfl (by rw [hk]; rfl)
theorem d177_168 : decode cX12_law 168 = .ok (.iload_n 3, 1) := by decide +kernel
theorem k177_168 {d : Nat} {x : Int32} {l0 l1 l2 : Option PV} {st : List PV} {M : Mem} {Q : Option PV → Mem → Prop} : WP d 177 168 [l0, l1, l2, some (vi x)] (st) M Q = WP d 177 169 [l0, l1, l2, some (vi x)] (vi x :: st) M Q := w1 mC_177 d177_168 rfl rfl
theorem d177_169 : decode cX12_law 169 = .ok (.iaload, 1) := by decide +kernel
theorem k177_169 {d : Nat} {l0 l1 l2 l3 : Option PV} {st : List PV} {M : Mem} {Q : Option PV → Mem → Prop} {r : Nat} {j : Int32} (hk : mK M r = 13) (hj : inb j (mN M r)) (h1 : r ≠ 1) : WP d 177 169 [l0, l1, l2, l3] (vi j :: vr r :: st) M Q = WP d 177 170 [l0, l1, l2, l3] (vi (mI M r (ix j)) :: st) M Q := w_iald mC_177 d177_169 (by decide) hk hj h1
theorem d177_170 : decode cX12_law 170 = .ok (.iastore, 1) := by decide +kernel
theorem k177_170 {d : Nat} {l0 l1 l2 l3 : Option PV} {st : List PV} {M : Mem} {Q : Option PV → Mem → Prop} {r : Nat} {j x : Int32} (hk : mK M r = 13) (hj : inb j (mN M r)) (h1 : r ≠ 1) : WP d 177 170 [l0, l1, l2, l3] (vi x :: vi j :: vr r :: st) M Q = WP d 177 171 [l0, l1, l2, l3] (st) (sI M r (ix j) x) Q := w_iast mC_177 d177_170 hk hj h1
theorem d177_171 : decode cX12_law 171 = .ok (.iinc 3 1, 3) := by decide +kernel
theorem k177_171 {d : Nat} {x : Int32} {l0 l1 l2 : Option PV} {st : List PV} {M : Mem} {Q : Option PV → Mem → Prop} : WP d 177 171 [l0, l1, l2, some (vi x)] (st) M Q = WP d 177 174 [l0, l1, l2, some (vi (x + 1))] (st) M Q := w_iinc mC_177 d177_171 rfl (by decide) rfl
theorem d177_174 : decode cX12_law 174 = .ok (.goto (-23), 3) := by decide +kernel
theorem k177_174 {d : Nat} {l0 l1 l2 l3 : Option PV} {st : List PV} {M : Mem} {Q : Option PV → Mem → Prop} : WP d 177 174 [l0, l1, l2, l3] (st) M Q = WP d 177 151 [l0, l1, l2, l3] (st) M Q := w_goto mC_177 d177_174 (by decide)
theorem d177_177 : decode cX12_law 177 = .ok (.iconst 1, 1) := by decide +kernel
theorem k177_177 {d : Nat} {l0 l1 l2 l3 : Option PV} {st : List PV} {M : Mem} {Q : Option PV → Mem → Prop} : WP d 177 177 [l0, l1, l2, l3] (st) M Q = WP d 177 178 [l0, l1, l2, l3] (vi 1 :: st) M Q := w_iconst mC_177 d177_177 (by decide)
theorem d177_178 : decode cX12_law 178 = .ok (.ireturn, 1) := by decide +kernel
theorem k177_178 {d : Nat} {l0 l1 l2 l3 : Option PV} {M : Mem} {Q : Option PV → Mem → Prop} {x : Int32} : WP d 177 178 [l0, l1, l2, l3] ([vi x]) M Q = Q (some (vi x)) M := w_iret mC_177 d177_178 rfl
theorem d178_0 : decode cX12_both 0 = .ok (.iload_n 0, 1) := by decide +kernel
theorem k178_0 {d : Nat} {x : Int32} {l1 l2 : Option PV} {st : List PV} {M : Mem} {Q : Option PV → Mem → Prop} : WP d 178 0 [some (vi x), l1, l2] (st) M Q = WP d 178 1 [some (vi x), l1, l2] (vi x :: st) M Q := w1 mC_178 d178_0 rfl rfl
theorem d178_1 : decode cX12_both 1 = .ok (.tableswitch 136 6 14 #[51, 65, 79, 90, 101, 112, 116, 120, 124], 51) := by decide +kernel
theorem k178_1c6 {d : Nat} {l0 l1 l2 : Option PV} {st : List PV} {M : Mem} {Q : Option PV → Mem → Prop} : WP d 178 1 [l0, l1, l2] (vi 6 :: st) M Q = WP d 178 52 [l0, l1, l2] (st) M Q := w_sw mC_178 d178_1 (by decide +kernel)
theorem k178_1c7 {d : Nat} {l0 l1 l2 : Option PV} {st : List PV} {M : Mem} {Q : Option PV → Mem → Prop} : WP d 178 1 [l0, l1, l2] (vi 7 :: st) M Q = WP d 178 66 [l0, l1, l2] (st) M Q := w_sw mC_178 d178_1 (by decide +kernel)
theorem k178_1c8 {d : Nat} {l0 l1 l2 : Option PV} {st : List PV} {M : Mem} {Q : Option PV → Mem → Prop} : WP d 178 1 [l0, l1, l2] (vi 8 :: st) M Q = WP d 178 80 [l0, l1, l2] (st) M Q := w_sw mC_178 d178_1 (by decide +kernel)
theorem k178_1c9 {d : Nat} {l0 l1 l2 : Option PV} {st : List PV} {M : Mem} {Q : Option PV → Mem → Prop} : WP d 178 1 [l0, l1, l2] (vi 9 :: st) M Q = WP d 178 91 [l0, l1, l2] (st) M Q := w_sw mC_178 d178_1 (by decide +kernel)
theorem k178_1c10 {d : Nat} {l0 l1 l2 : Option PV} {st : List PV} {M : Mem} {Q : Option PV → Mem → Prop} : WP d 178 1 [l0, l1, l2] (vi 10 :: st) M Q = WP d 178 102 [l0, l1, l2] (st) M Q := w_sw mC_178 d178_1 (by decide +kernel)
theorem k178_1c11 {d : Nat} {l0 l1 l2 : Option PV} {st : List PV} {M : Mem} {Q : Option PV → Mem → Prop} : WP d 178 1 [l0, l1, l2] (vi 11 :: st) M Q = WP d 178 113 [l0, l1, l2] (st) M Q := w_sw mC_178 d178_1 (by decide +kernel)
theorem k178_1c12 {d : Nat} {l0 l1 l2 : Option PV} {st : List PV} {M : Mem} {Q : Option PV → Mem → Prop} : WP d 178 1 [l0, l1, l2] (vi 12 :: st) M Q = WP d 178 117 [l0, l1, l2] (st) M Q := w_sw mC_178 d178_1 (by decide +kernel)
theorem k178_1c13 {d : Nat} {l0 l1 l2 : Option PV} {st : List PV} {M : Mem} {Q : Option PV → Mem → Prop} : WP d 178 1 [l0, l1, l2] (vi 13 :: st) M Q = WP d 178 121 [l0, l1, l2] (st) M Q := w_sw mC_178 d178_1 (by decide +kernel)
theorem k178_1c14 {d : Nat} {l0 l1 l2 : Option PV} {st : List PV} {M : Mem} {Q : Option PV → Mem → Prop} : WP d 178 1 [l0, l1, l2] (vi 14 :: st) M Q = WP d 178 125 [l0, l1, l2] (st) M Q := w_sw mC_178 d178_1 (by decide +kernel)
theorem k178_1 {d : Nat} {l0 l1 l2 : Option PV} {st : List PV} {M : Mem} {Q : Option PV → Mem → Prop} {x : Int32} (h : x.toInt < 6 ∨ 14 < x.toInt) : WP d 178 1 [l0, l1, l2] (vi x :: st) M Q = WP d 178 137 [l0, l1, l2] (st) M Q := w_swd mC_178 d178_1 (by decide) h
theorem d178_52 : decode cX12_both 52 = .ok (.iload_n 1, 1) := by decide +kernel
theorem k178_52 {d : Nat} {x : Int32} {l0 l2 : Option PV} {st : List PV} {M : Mem} {Q : Option PV → Mem → Prop} : WP d 178 52 [l0, some (vi x), l2] (st) M Q = WP d 178 53 [l0, some (vi x), l2] (vi x :: st) M Q := w1 mC_178 d178_52 rfl rfl
theorem d178_53 : decode cX12_both 53 = .ok (.ifCond .ne 7, 3) := by decide +kernel
theorem k178_53 {d : Nat} {l0 l1 l2 : Option PV} {st : List PV} {M : Mem} {Q : Option PV → Mem → Prop} {x : Int32} : WP d 178 53 [l0, l1, l2] (vi x :: st) M Q = (if x = 0 then WP d 178 56 [l0, l1, l2] (st) M Q else WP d 178 60 [l0, l1, l2] (st) M Q) := w_if_ne mC_178 d178_53 (by decide)
theorem d178_56 : decode cX12_both 56 = .ok (.iload_n 2, 1) := by decide +kernel
theorem k178_56 {d : Nat} {x : Int32} {l0 l1 : Option PV} {st : List PV} {M : Mem} {Q : Option PV → Mem → Prop} : WP d 178 56 [l0, l1, some (vi x)] (st) M Q = WP d 178 57 [l0, l1, some (vi x)] (vi x :: st) M Q := w1 mC_178 d178_56 rfl rfl
theorem d178_57 : decode cX12_both 57 = .ok (.ifCond .eq 7, 3) := by decide +kernel
theorem k178_57 {d : Nat} {l0 l1 l2 : Option PV} {st : List PV} {M : Mem} {Q : Option PV → Mem → Prop} {x : Int32} : WP d 178 57 [l0, l1, l2] (vi x :: st) M Q = (if x = 0 then WP d 178 64 [l0, l1, l2] (st) M Q else WP d 178 60 [l0, l1, l2] (st) M Q) := w_if_eq mC_178 d178_57 (by decide)
theorem d178_60 : decode cX12_both 60 = .ok (.iconst 1, 1) := by decide +kernel
theorem k178_60 {d : Nat} {l0 l1 l2 : Option PV} {st : List PV} {M : Mem} {Q : Option PV → Mem → Prop} : WP d 178 60 [l0, l1, l2] (st) M Q = WP d 178 61 [l0, l1, l2] (vi 1 :: st) M Q := w_iconst mC_178 d178_60 (by decide)
theorem d178_61 : decode cX12_both 61 = .ok (.goto 4, 3) := by decide +kernel
theorem k178_61 {d : Nat} {l0 l1 l2 : Option PV} {st : List PV} {M : Mem} {Q : Option PV → Mem → Prop} : WP d 178 61 [l0, l1, l2] (st) M Q = WP d 178 65 [l0, l1, l2] (st) M Q := w_goto mC_178 d178_61 (by decide)
theorem d178_64 : decode cX12_both 64 = .ok (.iconst 0, 1) := by decide +kernel
theorem k178_64 {d : Nat} {l0 l1 l2 : Option PV} {st : List PV} {M : Mem} {Q : Option PV → Mem → Prop} : WP d 178 64 [l0, l1, l2] (st) M Q = WP d 178 65 [l0, l1, l2] (vi 0 :: st) M Q := w_iconst mC_178 d178_64 (by decide)
theorem d178_65 : decode cX12_both 65 = .ok (.ireturn, 1) := by decide +kernel
theorem k178_65 {d : Nat} {l0 l1 l2 : Option PV} {M : Mem} {Q : Option PV → Mem → Prop} {x : Int32} : WP d 178 65 [l0, l1, l2] ([vi x]) M Q = Q (some (vi x)) M := w_iret mC_178 d178_65 rfl
theorem d178_66 : decode cX12_both 66 = .ok (.iload_n 1, 1) := by decide +kernel
theorem k178_66 {d : Nat} {x : Int32} {l0 l2 : Option PV} {st : List PV} {M : Mem} {Q : Option PV → Mem → Prop} : WP d 178 66 [l0, some (vi x), l2] (st) M Q = WP d 178 67 [l0, some (vi x), l2] (vi x :: st) M Q := w1 mC_178 d178_66 rfl rfl
theorem d178_67 : decode cX12_both 67 = .ok (.ifCond .eq 11, 3) := by decide +kernel
theorem k178_67 {d : Nat} {l0 l1 l2 : Option PV} {st : List PV} {M : Mem} {Q : Option PV → Mem → Prop} {x : Int32} : WP d 178 67 [l0, l1, l2] (vi x :: st) M Q = (if x = 0 then WP d 178 78 [l0, l1, l2] (st) M Q else WP d 178 70 [l0, l1, l2] (st) M Q) := w_if_eq mC_178 d178_67 (by decide)
theorem d178_70 : decode cX12_both 70 = .ok (.iload_n 2, 1) := by decide +kernel
theorem k178_70 {d : Nat} {x : Int32} {l0 l1 : Option PV} {st : List PV} {M : Mem} {Q : Option PV → Mem → Prop} : WP d 178 70 [l0, l1, some (vi x)] (st) M Q = WP d 178 71 [l0, l1, some (vi x)] (vi x :: st) M Q := w1 mC_178 d178_70 rfl rfl
theorem d178_71 : decode cX12_both 71 = .ok (.ifCond .eq 7, 3) := by decide +kernel
theorem k178_71 {d : Nat} {l0 l1 l2 : Option PV} {st : List PV} {M : Mem} {Q : Option PV → Mem → Prop} {x : Int32} : WP d 178 71 [l0, l1, l2] (vi x :: st) M Q = (if x = 0 then WP d 178 78 [l0, l1, l2] (st) M Q else WP d 178 74 [l0, l1, l2] (st) M Q) := w_if_eq mC_178 d178_71 (by decide)
theorem d178_74 : decode cX12_both 74 = .ok (.iconst 1, 1) := by decide +kernel
theorem k178_74 {d : Nat} {l0 l1 l2 : Option PV} {st : List PV} {M : Mem} {Q : Option PV → Mem → Prop} : WP d 178 74 [l0, l1, l2] (st) M Q = WP d 178 75 [l0, l1, l2] (vi 1 :: st) M Q := w_iconst mC_178 d178_74 (by decide)
theorem d178_75 : decode cX12_both 75 = .ok (.goto 4, 3) := by decide +kernel
theorem k178_75 {d : Nat} {l0 l1 l2 : Option PV} {st : List PV} {M : Mem} {Q : Option PV → Mem → Prop} : WP d 178 75 [l0, l1, l2] (st) M Q = WP d 178 79 [l0, l1, l2] (st) M Q := w_goto mC_178 d178_75 (by decide)
theorem d178_78 : decode cX12_both 78 = .ok (.iconst 0, 1) := by decide +kernel
theorem k178_78 {d : Nat} {l0 l1 l2 : Option PV} {st : List PV} {M : Mem} {Q : Option PV → Mem → Prop} : WP d 178 78 [l0, l1, l2] (st) M Q = WP d 178 79 [l0, l1, l2] (vi 0 :: st) M Q := w_iconst mC_178 d178_78 (by decide)
theorem d178_79 : decode cX12_both 79 = .ok (.ireturn, 1) := by decide +kernel
theorem k178_79 {d : Nat} {l0 l1 l2 : Option PV} {M : Mem} {Q : Option PV → Mem → Prop} {x : Int32} : WP d 178 79 [l0, l1, l2] ([vi x]) M Q = Q (some (vi x)) M := w_iret mC_178 d178_79 rfl
theorem d178_80 : decode cX12_both 80 = .ok (.iload_n 1, 1) := by decide +kernel
theorem k178_80 {d : Nat} {x : Int32} {l0 l2 : Option PV} {st : List PV} {M : Mem} {Q : Option PV → Mem → Prop} : WP d 178 80 [l0, some (vi x), l2] (st) M Q = WP d 178 81 [l0, some (vi x), l2] (vi x :: st) M Q := w1 mC_178 d178_80 rfl rfl
theorem d178_81 : decode cX12_both 81 = .ok (.iload_n 2, 1) := by decide +kernel
theorem k178_81 {d : Nat} {x : Int32} {l0 l1 : Option PV} {st : List PV} {M : Mem} {Q : Option PV → Mem → Prop} : WP d 178 81 [l0, l1, some (vi x)] (st) M Q = WP d 178 82 [l0, l1, some (vi x)] (vi x :: st) M Q := w1 mC_178 d178_81 rfl rfl
theorem d178_82 : decode cX12_both 82 = .ok (.if_icmp .ge 7, 3) := by decide +kernel
theorem k178_82 {d : Nat} {l0 l1 l2 : Option PV} {st : List PV} {M : Mem} {Q : Option PV → Mem → Prop} {x y : Int32} : WP d 178 82 [l0, l1, l2] (vi y :: vi x :: st) M Q = (if y ≤ x then WP d 178 89 [l0, l1, l2] (st) M Q else WP d 178 85 [l0, l1, l2] (st) M Q) := w_ic_ge mC_178 d178_82 (by decide)
theorem d178_85 : decode cX12_both 85 = .ok (.iconst 1, 1) := by decide +kernel
theorem k178_85 {d : Nat} {l0 l1 l2 : Option PV} {st : List PV} {M : Mem} {Q : Option PV → Mem → Prop} : WP d 178 85 [l0, l1, l2] (st) M Q = WP d 178 86 [l0, l1, l2] (vi 1 :: st) M Q := w_iconst mC_178 d178_85 (by decide)
theorem d178_86 : decode cX12_both 86 = .ok (.goto 4, 3) := by decide +kernel
theorem k178_86 {d : Nat} {l0 l1 l2 : Option PV} {st : List PV} {M : Mem} {Q : Option PV → Mem → Prop} : WP d 178 86 [l0, l1, l2] (st) M Q = WP d 178 90 [l0, l1, l2] (st) M Q := w_goto mC_178 d178_86 (by decide)
theorem d178_89 : decode cX12_both 89 = .ok (.iconst 0, 1) := by decide +kernel
theorem k178_89 {d : Nat} {l0 l1 l2 : Option PV} {st : List PV} {M : Mem} {Q : Option PV → Mem → Prop} : WP d 178 89 [l0, l1, l2] (st) M Q = WP d 178 90 [l0, l1, l2] (vi 0 :: st) M Q := w_iconst mC_178 d178_89 (by decide)
theorem d178_90 : decode cX12_both 90 = .ok (.ireturn, 1) := by decide +kernel
theorem k178_90 {d : Nat} {l0 l1 l2 : Option PV} {M : Mem} {Q : Option PV → Mem → Prop} {x : Int32} : WP d 178 90 [l0, l1, l2] ([vi x]) M Q = Q (some (vi x)) M := w_iret mC_178 d178_90 rfl
theorem d178_91 : decode cX12_both 91 = .ok (.iload_n 1, 1) := by decide +kernel
theorem k178_91 {d : Nat} {x : Int32} {l0 l2 : Option PV} {st : List PV} {M : Mem} {Q : Option PV → Mem → Prop} : WP d 178 91 [l0, some (vi x), l2] (st) M Q = WP d 178 92 [l0, some (vi x), l2] (vi x :: st) M Q := w1 mC_178 d178_91 rfl rfl
theorem d178_92 : decode cX12_both 92 = .ok (.iload_n 2, 1) := by decide +kernel
theorem k178_92 {d : Nat} {x : Int32} {l0 l1 : Option PV} {st : List PV} {M : Mem} {Q : Option PV → Mem → Prop} : WP d 178 92 [l0, l1, some (vi x)] (st) M Q = WP d 178 93 [l0, l1, some (vi x)] (vi x :: st) M Q := w1 mC_178 d178_92 rfl rfl
theorem d178_93 : decode cX12_both 93 = .ok (.if_icmp .ne 7, 3) := by decide +kernel
theorem k178_93 {d : Nat} {l0 l1 l2 : Option PV} {st : List PV} {M : Mem} {Q : Option PV → Mem → Prop} {x y : Int32} : WP d 178 93 [l0, l1, l2] (vi y :: vi x :: st) M Q = (if x = y then WP d 178 96 [l0, l1, l2] (st) M Q else WP d 178 100 [l0, l1, l2] (st) M Q) := w_ic_ne mC_178 d178_93 (by decide)
theorem d178_96 : decode cX12_both 96 = .ok (.iconst 1, 1) := by decide +kernel
theorem k178_96 {d : Nat} {l0 l1 l2 : Option PV} {st : List PV} {M : Mem} {Q : Option PV → Mem → Prop} : WP d 178 96 [l0, l1, l2] (st) M Q = WP d 178 97 [l0, l1, l2] (vi 1 :: st) M Q := w_iconst mC_178 d178_96 (by decide)
theorem d178_97 : decode cX12_both 97 = .ok (.goto 4, 3) := by decide +kernel
theorem k178_97 {d : Nat} {l0 l1 l2 : Option PV} {st : List PV} {M : Mem} {Q : Option PV → Mem → Prop} : WP d 178 97 [l0, l1, l2] (st) M Q = WP d 178 101 [l0, l1, l2] (st) M Q := w_goto mC_178 d178_97 (by decide)
theorem d178_100 : decode cX12_both 100 = .ok (.iconst 0, 1) := by decide +kernel
theorem k178_100 {d : Nat} {l0 l1 l2 : Option PV} {st : List PV} {M : Mem} {Q : Option PV → Mem → Prop} : WP d 178 100 [l0, l1, l2] (st) M Q = WP d 178 101 [l0, l1, l2] (vi 0 :: st) M Q := w_iconst mC_178 d178_100 (by decide)
theorem d178_101 : decode cX12_both 101 = .ok (.ireturn, 1) := by decide +kernel
theorem k178_101 {d : Nat} {l0 l1 l2 : Option PV} {M : Mem} {Q : Option PV → Mem → Prop} {x : Int32} : WP d 178 101 [l0, l1, l2] ([vi x]) M Q = Q (some (vi x)) M := w_iret mC_178 d178_101 rfl
theorem d178_102 : decode cX12_both 102 = .ok (.iload_n 1, 1) := by decide +kernel
theorem k178_102 {d : Nat} {x : Int32} {l0 l2 : Option PV} {st : List PV} {M : Mem} {Q : Option PV → Mem → Prop} : WP d 178 102 [l0, some (vi x), l2] (st) M Q = WP d 178 103 [l0, some (vi x), l2] (vi x :: st) M Q := w1 mC_178 d178_102 rfl rfl
theorem d178_103 : decode cX12_both 103 = .ok (.iload_n 2, 1) := by decide +kernel
theorem k178_103 {d : Nat} {x : Int32} {l0 l1 : Option PV} {st : List PV} {M : Mem} {Q : Option PV → Mem → Prop} : WP d 178 103 [l0, l1, some (vi x)] (st) M Q = WP d 178 104 [l0, l1, some (vi x)] (vi x :: st) M Q := w1 mC_178 d178_103 rfl rfl
theorem d178_104 : decode cX12_both 104 = .ok (.if_icmp .le 7, 3) := by decide +kernel
theorem k178_104 {d : Nat} {l0 l1 l2 : Option PV} {st : List PV} {M : Mem} {Q : Option PV → Mem → Prop} {x y : Int32} : WP d 178 104 [l0, l1, l2] (vi y :: vi x :: st) M Q = (if x ≤ y then WP d 178 111 [l0, l1, l2] (st) M Q else WP d 178 107 [l0, l1, l2] (st) M Q) := w_ic_le mC_178 d178_104 (by decide)
theorem d178_107 : decode cX12_both 107 = .ok (.iconst 1, 1) := by decide +kernel
theorem k178_107 {d : Nat} {l0 l1 l2 : Option PV} {st : List PV} {M : Mem} {Q : Option PV → Mem → Prop} : WP d 178 107 [l0, l1, l2] (st) M Q = WP d 178 108 [l0, l1, l2] (vi 1 :: st) M Q := w_iconst mC_178 d178_107 (by decide)
theorem d178_108 : decode cX12_both 108 = .ok (.goto 4, 3) := by decide +kernel
theorem k178_108 {d : Nat} {l0 l1 l2 : Option PV} {st : List PV} {M : Mem} {Q : Option PV → Mem → Prop} : WP d 178 108 [l0, l1, l2] (st) M Q = WP d 178 112 [l0, l1, l2] (st) M Q := w_goto mC_178 d178_108 (by decide)
theorem d178_111 : decode cX12_both 111 = .ok (.iconst 0, 1) := by decide +kernel
theorem k178_111 {d : Nat} {l0 l1 l2 : Option PV} {st : List PV} {M : Mem} {Q : Option PV → Mem → Prop} : WP d 178 111 [l0, l1, l2] (st) M Q = WP d 178 112 [l0, l1, l2] (vi 0 :: st) M Q := w_iconst mC_178 d178_111 (by decide)
theorem d178_112 : decode cX12_both 112 = .ok (.ireturn, 1) := by decide +kernel
theorem k178_112 {d : Nat} {l0 l1 l2 : Option PV} {M : Mem} {Q : Option PV → Mem → Prop} {x : Int32} : WP d 178 112 [l0, l1, l2] ([vi x]) M Q = Q (some (vi x)) M := w_iret mC_178 d178_112 rfl
theorem d178_113 : decode cX12_both 113 = .ok (.iload_n 1, 1) := by decide +kernel
theorem k178_113 {d : Nat} {x : Int32} {l0 l2 : Option PV} {st : List PV} {M : Mem} {Q : Option PV → Mem → Prop} : WP d 178 113 [l0, some (vi x), l2] (st) M Q = WP d 178 114 [l0, some (vi x), l2] (vi x :: st) M Q := w1 mC_178 d178_113 rfl rfl
theorem d178_114 : decode cX12_both 114 = .ok (.iload_n 2, 1) := by decide +kernel
theorem k178_114 {d : Nat} {x : Int32} {l0 l1 : Option PV} {st : List PV} {M : Mem} {Q : Option PV → Mem → Prop} : WP d 178 114 [l0, l1, some (vi x)] (st) M Q = WP d 178 115 [l0, l1, some (vi x)] (vi x :: st) M Q := w1 mC_178 d178_114 rfl rfl
theorem d178_115 : decode cX12_both 115 = .ok (.iadd, 1) := by decide +kernel
theorem k178_115 {d : Nat} {l0 l1 l2 : Option PV} {st : List PV} {M : Mem} {Q : Option PV → Mem → Prop} {x y : Int32} : WP d 178 115 [l0, l1, l2] (vi y :: vi x :: st) M Q = WP d 178 116 [l0, l1, l2] (vi (x + y) :: st) M Q := w1 mC_178 d178_115 rfl rfl
theorem d178_116 : decode cX12_both 116 = .ok (.ireturn, 1) := by decide +kernel
theorem k178_116 {d : Nat} {l0 l1 l2 : Option PV} {M : Mem} {Q : Option PV → Mem → Prop} {x : Int32} : WP d 178 116 [l0, l1, l2] ([vi x]) M Q = Q (some (vi x)) M := w_iret mC_178 d178_116 rfl
theorem d178_117 : decode cX12_both 117 = .ok (.iload_n 1, 1) := by decide +kernel
theorem k178_117 {d : Nat} {x : Int32} {l0 l2 : Option PV} {st : List PV} {M : Mem} {Q : Option PV → Mem → Prop} : WP d 178 117 [l0, some (vi x), l2] (st) M Q = WP d 178 118 [l0, some (vi x), l2] (vi x :: st) M Q := w1 mC_178 d178_117 rfl rfl
theorem d178_118 : decode cX12_both 118 = .ok (.iload_n 2, 1) := by decide +kernel
theorem k178_118 {d : Nat} {x : Int32} {l0 l1 : Option PV} {st : List PV} {M : Mem} {Q : Option PV → Mem → Prop} : WP d 178 118 [l0, l1, some (vi x)] (st) M Q = WP d 178 119 [l0, l1, some (vi x)] (vi x :: st) M Q := w1 mC_178 d178_118 rfl rfl
theorem d178_119 : decode cX12_both 119 = .ok (.isub, 1) := by decide +kernel
theorem k178_119 {d : Nat} {l0 l1 l2 : Option PV} {st : List PV} {M : Mem} {Q : Option PV → Mem → Prop} {x y : Int32} : WP d 178 119 [l0, l1, l2] (vi y :: vi x :: st) M Q = WP d 178 120 [l0, l1, l2] (vi (x - y) :: st) M Q := w1 mC_178 d178_119 rfl rfl
theorem d178_120 : decode cX12_both 120 = .ok (.ireturn, 1) := by decide +kernel
theorem k178_120 {d : Nat} {l0 l1 l2 : Option PV} {M : Mem} {Q : Option PV → Mem → Prop} {x : Int32} : WP d 178 120 [l0, l1, l2] ([vi x]) M Q = Q (some (vi x)) M := w_iret mC_178 d178_120 rfl
theorem d178_121 : decode cX12_both 121 = .ok (.iload_n 1, 1) := by decide +kernel
theorem k178_121 {d : Nat} {x : Int32} {l0 l2 : Option PV} {st : List PV} {M : Mem} {Q : Option PV → Mem → Prop} : WP d 178 121 [l0, some (vi x), l2] (st) M Q = WP d 178 122 [l0, some (vi x), l2] (vi x :: st) M Q := w1 mC_178 d178_121 rfl rfl
theorem d178_122 : decode cX12_both 122 = .ok (.iload_n 2, 1) := by decide +kernel
theorem k178_122 {d : Nat} {x : Int32} {l0 l1 : Option PV} {st : List PV} {M : Mem} {Q : Option PV → Mem → Prop} : WP d 178 122 [l0, l1, some (vi x)] (st) M Q = WP d 178 123 [l0, l1, some (vi x)] (vi x :: st) M Q := w1 mC_178 d178_122 rfl rfl
theorem d178_123 : decode cX12_both 123 = .ok (.imul, 1) := by decide +kernel
theorem k178_123 {d : Nat} {l0 l1 l2 : Option PV} {st : List PV} {M : Mem} {Q : Option PV → Mem → Prop} {x y : Int32} : WP d 178 123 [l0, l1, l2] (vi y :: vi x :: st) M Q = WP d 178 124 [l0, l1, l2] (vi (x * y) :: st) M Q := w1 mC_178 d178_123 rfl rfl
theorem d178_124 : decode cX12_both 124 = .ok (.ireturn, 1) := by decide +kernel
theorem k178_124 {d : Nat} {l0 l1 l2 : Option PV} {M : Mem} {Q : Option PV → Mem → Prop} {x : Int32} : WP d 178 124 [l0, l1, l2] ([vi x]) M Q = Q (some (vi x)) M := w_iret mC_178 d178_124 rfl
theorem d178_125 : decode cX12_both 125 = .ok (.iload_n 2, 1) := by decide +kernel
theorem k178_125 {d : Nat} {x : Int32} {l0 l1 : Option PV} {st : List PV} {M : Mem} {Q : Option PV → Mem → Prop} : WP d 178 125 [l0, l1, some (vi x)] (st) M Q = WP d 178 126 [l0, l1, some (vi x)] (vi x :: st) M Q := w1 mC_178 d178_125 rfl rfl
theorem d178_126 : decode cX12_both 126 = .ok (.ifCond .ne 7, 3) := by decide +kernel
theorem k178_126 {d : Nat} {l0 l1 l2 : Option PV} {st : List PV} {M : Mem} {Q : Option PV → Mem → Prop} {x : Int32} : WP d 178 126 [l0, l1, l2] (vi x :: st) M Q = (if x = 0 then WP d 178 129 [l0, l1, l2] (st) M Q else WP d 178 133 [l0, l1, l2] (st) M Q) := w_if_ne mC_178 d178_126 (by decide)
theorem d178_129 : decode cX12_both 129 = .ok (.iconst 0, 1) := by decide +kernel
theorem k178_129 {d : Nat} {l0 l1 l2 : Option PV} {st : List PV} {M : Mem} {Q : Option PV → Mem → Prop} : WP d 178 129 [l0, l1, l2] (st) M Q = WP d 178 130 [l0, l1, l2] (vi 0 :: st) M Q := w_iconst mC_178 d178_129 (by decide)
theorem d178_130 : decode cX12_both 130 = .ok (.goto 6, 3) := by decide +kernel
theorem k178_130 {d : Nat} {l0 l1 l2 : Option PV} {st : List PV} {M : Mem} {Q : Option PV → Mem → Prop} : WP d 178 130 [l0, l1, l2] (st) M Q = WP d 178 136 [l0, l1, l2] (st) M Q := w_goto mC_178 d178_130 (by decide)
theorem d178_133 : decode cX12_both 133 = .ok (.iload_n 1, 1) := by decide +kernel
theorem k178_133 {d : Nat} {x : Int32} {l0 l2 : Option PV} {st : List PV} {M : Mem} {Q : Option PV → Mem → Prop} : WP d 178 133 [l0, some (vi x), l2] (st) M Q = WP d 178 134 [l0, some (vi x), l2] (vi x :: st) M Q := w1 mC_178 d178_133 rfl rfl
theorem d178_134 : decode cX12_both 134 = .ok (.iload_n 2, 1) := by decide +kernel
theorem k178_134 {d : Nat} {x : Int32} {l0 l1 : Option PV} {st : List PV} {M : Mem} {Q : Option PV → Mem → Prop} : WP d 178 134 [l0, l1, some (vi x)] (st) M Q = WP d 178 135 [l0, l1, some (vi x)] (vi x :: st) M Q := w1 mC_178 d178_134 rfl rfl
theorem d178_135 : decode cX12_both 135 = .ok (.idiv, 1) := by decide +kernel
theorem k178_135 {d : Nat} {l0 l1 l2 : Option PV} {st : List PV} {M : Mem} {Q : Option PV → Mem → Prop} {x y : Int32} (h : y ≠ 0) : WP d 178 135 [l0, l1, l2] (vi y :: vi x :: st) M Q = WP d 178 136 [l0, l1, l2] (vi (x / y) :: st) M Q := w_div mC_178 d178_135 h
theorem d178_136 : decode cX12_both 136 = .ok (.ireturn, 1) := by decide +kernel
theorem k178_136 {d : Nat} {l0 l1 l2 : Option PV} {M : Mem} {Q : Option PV → Mem → Prop} {x : Int32} : WP d 178 136 [l0, l1, l2] ([vi x]) M Q = Q (some (vi x)) M := w_iret mC_178 d178_136 rfl
theorem d178_137 : decode cX12_both 137 = .ok (.iload_n 2, 1) := by decide +kernel
theorem k178_137 {d : Nat} {x : Int32} {l0 l1 : Option PV} {st : List PV} {M : Mem} {Q : Option PV → Mem → Prop} : WP d 178 137 [l0, l1, some (vi x)] (st) M Q = WP d 178 138 [l0, l1, some (vi x)] (vi x :: st) M Q := w1 mC_178 d178_137 rfl rfl
theorem d178_138 : decode cX12_both 138 = .ok (.ifCond .ne 7, 3) := by decide +kernel
theorem k178_138 {d : Nat} {l0 l1 l2 : Option PV} {st : List PV} {M : Mem} {Q : Option PV → Mem → Prop} {x : Int32} : WP d 178 138 [l0, l1, l2] (vi x :: st) M Q = (if x = 0 then WP d 178 141 [l0, l1, l2] (st) M Q else WP d 178 145 [l0, l1, l2] (st) M Q) := w_if_ne mC_178 d178_138 (by decide)
theorem d178_141 : decode cX12_both 141 = .ok (.iconst 0, 1) := by decide +kernel
theorem k178_141 {d : Nat} {l0 l1 l2 : Option PV} {st : List PV} {M : Mem} {Q : Option PV → Mem → Prop} : WP d 178 141 [l0, l1, l2] (st) M Q = WP d 178 142 [l0, l1, l2] (vi 0 :: st) M Q := w_iconst mC_178 d178_141 (by decide)
theorem d178_142 : decode cX12_both 142 = .ok (.goto 6, 3) := by decide +kernel
theorem k178_142 {d : Nat} {l0 l1 l2 : Option PV} {st : List PV} {M : Mem} {Q : Option PV → Mem → Prop} : WP d 178 142 [l0, l1, l2] (st) M Q = WP d 178 148 [l0, l1, l2] (st) M Q := w_goto mC_178 d178_142 (by decide)
theorem d178_145 : decode cX12_both 145 = .ok (.iload_n 1, 1) := by decide +kernel
theorem k178_145 {d : Nat} {x : Int32} {l0 l2 : Option PV} {st : List PV} {M : Mem} {Q : Option PV → Mem → Prop} : WP d 178 145 [l0, some (vi x), l2] (st) M Q = WP d 178 146 [l0, some (vi x), l2] (vi x :: st) M Q := w1 mC_178 d178_145 rfl rfl
theorem d178_146 : decode cX12_both 146 = .ok (.iload_n 2, 1) := by decide +kernel
theorem k178_146 {d : Nat} {x : Int32} {l0 l1 : Option PV} {st : List PV} {M : Mem} {Q : Option PV → Mem → Prop} : WP d 178 146 [l0, l1, some (vi x)] (st) M Q = WP d 178 147 [l0, l1, some (vi x)] (vi x :: st) M Q := w1 mC_178 d178_146 rfl rfl
theorem d178_147 : decode cX12_both 147 = .ok (.irem, 1) := by decide +kernel
theorem k178_147 {d : Nat} {l0 l1 l2 : Option PV} {st : List PV} {M : Mem} {Q : Option PV → Mem → Prop} {x y : Int32} (h : y ≠ 0) : WP d 178 147 [l0, l1, l2] (vi y :: vi x :: st) M Q = WP d 178 148 [l0, l1, l2] (vi (x % y) :: st) M Q := w_rem mC_178 d178_147 h
theorem d178_148 : decode cX12_both 148 = .ok (.ireturn, 1) := by decide +kernel
theorem k178_148 {d : Nat} {l0 l1 l2 : Option PV} {M : Mem} {Q : Option PV → Mem → Prop} {x : Int32} : WP d 178 148 [l0, l1, l2] ([vi x]) M Q = Q (some (vi x)) M := w_iret mC_178 d178_148 rfl
theorem d179_0 : decode cX12_worked 0 = .ok (.iconst 0, 1) := by decide +kernel
theorem k179_0 {d : Nat} {l0 l1 l2 l3 l4 l5 : Option PV} {st : List PV} {M : Mem} {Q : Option PV → Mem → Prop} : WP d 179 0 [l0, l1, l2, l3, l4, l5] (st) M Q = WP d 179 1 [l0, l1, l2, l3, l4, l5] (vi 0 :: st) M Q := w_iconst mC_179 d179_0 (by decide)
theorem d179_1 : decode cX12_worked 1 = .ok (.istore_n 3, 1) := by decide +kernel
theorem k179_1 {d : Nat} {l0 l1 l2 l3 l4 l5 : Option PV} {st : List PV} {M : Mem} {Q : Option PV → Mem → Prop} {x : Int32} : WP d 179 1 [l0, l1, l2, l3, l4, l5] (vi x :: st) M Q = WP d 179 2 [l0, l1, l2, some (vi x), l4, l5] (st) M Q := w1 mC_179 d179_1 rfl rfl
theorem d179_2 : decode cX12_worked 2 = .ok (.iload_n 1, 1) := by decide +kernel
theorem k179_2 {d : Nat} {x : Int32} {l0 l2 l3 l4 l5 : Option PV} {st : List PV} {M : Mem} {Q : Option PV → Mem → Prop} : WP d 179 2 [l0, some (vi x), l2, l3, l4, l5] (st) M Q = WP d 179 3 [l0, some (vi x), l2, l3, l4, l5] (vi x :: st) M Q := w1 mC_179 d179_2 rfl rfl
theorem d179_3 : decode cX12_worked 3 = .ok (.istore 4, 2) := by decide +kernel
theorem k179_3 {d : Nat} {l0 l1 l2 l3 l4 l5 : Option PV} {st : List PV} {M : Mem} {Q : Option PV → Mem → Prop} {x : Int32} : WP d 179 3 [l0, l1, l2, l3, l4, l5] (vi x :: st) M Q = WP d 179 5 [l0, l1, l2, l3, some (vi x), l5] (st) M Q := w1 mC_179 d179_3 rfl rfl
theorem d179_5 : decode cX12_worked 5 = .ok (.iload 4, 2) := by decide +kernel
theorem k179_5 {d : Nat} {x : Int32} {l0 l1 l2 l3 l5 : Option PV} {st : List PV} {M : Mem} {Q : Option PV → Mem → Prop} : WP d 179 5 [l0, l1, l2, l3, some (vi x), l5] (st) M Q = WP d 179 7 [l0, l1, l2, l3, some (vi x), l5] (vi x :: st) M Q := w1 mC_179 d179_5 rfl rfl
theorem d179_7 : decode cX12_worked 7 = .ok (.iload_n 2, 1) := by decide +kernel
theorem k179_7 {d : Nat} {x : Int32} {l0 l1 l3 l4 l5 : Option PV} {st : List PV} {M : Mem} {Q : Option PV → Mem → Prop} : WP d 179 7 [l0, l1, some (vi x), l3, l4, l5] (st) M Q = WP d 179 8 [l0, l1, some (vi x), l3, l4, l5] (vi x :: st) M Q := w1 mC_179 d179_7 rfl rfl
theorem d179_8 : decode cX12_worked 8 = .ok (.if_icmp .ge 155, 3) := by decide +kernel
theorem k179_8 {d : Nat} {l0 l1 l2 l3 l4 l5 : Option PV} {st : List PV} {M : Mem} {Q : Option PV → Mem → Prop} {x y : Int32} : WP d 179 8 [l0, l1, l2, l3, l4, l5] (vi y :: vi x :: st) M Q = (if y ≤ x then WP d 179 163 [l0, l1, l2, l3, l4, l5] (st) M Q else WP d 179 11 [l0, l1, l2, l3, l4, l5] (st) M Q) := w_ic_ge mC_179 d179_8 (by decide)
theorem d179_11 : decode cX12_worked 11 = .ok (.aload_n 0, 1) := by decide +kernel
theorem k179_11 {d x : Nat} {l1 l2 l3 l4 l5 : Option PV} {st : List PV} {M : Mem} {Q : Option PV → Mem → Prop} : WP d 179 11 [some (vr x), l1, l2, l3, l4, l5] (st) M Q = WP d 179 12 [some (vr x), l1, l2, l3, l4, l5] (vr x :: st) M Q := w1 mC_179 d179_11 rfl rfl
theorem d179_12 : decode cX12_worked 12 = .ok (.getfield 30, 3) := by decide +kernel
theorem k179_12 {d : Nat} {l0 l1 l2 l3 l4 l5 : Option PV} {st : List PV} {M : Mem} {Q : Option PV → Mem → Prop} {r : Nat} (hk : mK M r = 12) : WP d 179 12 [l0, l1, l2, l3, l4, l5] (vr r :: st) M Q = WP d 179 15 [l0, l1, l2, l3, l4, l5] (vr (mR M r 11) :: st) M Q := w_getr mC_179 d179_12 fE_12_30 rfl (by rw [hk]; rfl)
theorem d179_15 : decode cX12_worked 15 = .ok (.iload 4, 2) := by decide +kernel
theorem k179_15 {d : Nat} {x : Int32} {l0 l1 l2 l3 l5 : Option PV} {st : List PV} {M : Mem} {Q : Option PV → Mem → Prop} : WP d 179 15 [l0, l1, l2, l3, some (vi x), l5] (st) M Q = WP d 179 17 [l0, l1, l2, l3, some (vi x), l5] (vi x :: st) M Q := w1 mC_179 d179_15 rfl rfl
theorem d179_17 : decode cX12_worked 17 = .ok (.iaload, 1) := by decide +kernel
theorem k179_17 {d : Nat} {l0 l1 l2 l3 l4 l5 : Option PV} {st : List PV} {M : Mem} {Q : Option PV → Mem → Prop} {r : Nat} {j : Int32} (hk : mK M r = 13) (hj : inb j (mN M r)) (h1 : r ≠ 1) : WP d 179 17 [l0, l1, l2, l3, l4, l5] (vi j :: vr r :: st) M Q = WP d 179 18 [l0, l1, l2, l3, l4, l5] (vi (mI M r (ix j)) :: st) M Q := w_iald mC_179 d179_17 (by decide) hk hj h1
theorem d179_18 : decode cX12_worked 18 = .ok (.istore 5, 2) := by decide +kernel
theorem k179_18 {d : Nat} {l0 l1 l2 l3 l4 l5 : Option PV} {st : List PV} {M : Mem} {Q : Option PV → Mem → Prop} {x : Int32} : WP d 179 18 [l0, l1, l2, l3, l4, l5] (vi x :: st) M Q = WP d 179 20 [l0, l1, l2, l3, l4, some (vi x)] (st) M Q := w1 mC_179 d179_18 rfl rfl
theorem d179_20 : decode cX12_worked 20 = .ok (.iload 5, 2) := by decide +kernel
theorem k179_20 {d : Nat} {x : Int32} {l0 l1 l2 l3 l4 : Option PV} {st : List PV} {M : Mem} {Q : Option PV → Mem → Prop} : WP d 179 20 [l0, l1, l2, l3, l4, some (vi x)] (st) M Q = WP d 179 22 [l0, l1, l2, l3, l4, some (vi x)] (vi x :: st) M Q := w1 mC_179 d179_20 rfl rfl
theorem d179_22 : decode cX12_worked 22 = .ok (.bipush 18, 2) := by decide +kernel
theorem k179_22 {d : Nat} {l0 l1 l2 l3 l4 l5 : Option PV} {st : List PV} {M : Mem} {Q : Option PV → Mem → Prop} : WP d 179 22 [l0, l1, l2, l3, l4, l5] (st) M Q = WP d 179 24 [l0, l1, l2, l3, l4, l5] (vi 18 :: st) M Q := w_bipush mC_179 d179_22 (by decide)
theorem d179_24 : decode cX12_worked 24 = .ok (.if_icmp .ge 9, 3) := by decide +kernel
theorem k179_24 {d : Nat} {l0 l1 l2 l3 l4 l5 : Option PV} {st : List PV} {M : Mem} {Q : Option PV → Mem → Prop} {x y : Int32} : WP d 179 24 [l0, l1, l2, l3, l4, l5] (vi y :: vi x :: st) M Q = (if y ≤ x then WP d 179 33 [l0, l1, l2, l3, l4, l5] (st) M Q else WP d 179 27 [l0, l1, l2, l3, l4, l5] (st) M Q) := w_ic_ge mC_179 d179_24 (by decide)
theorem d179_27 : decode cX12_worked 27 = .ok (.iload 5, 2) := by decide +kernel
theorem k179_27 {d : Nat} {x : Int32} {l0 l1 l2 l3 l4 : Option PV} {st : List PV} {M : Mem} {Q : Option PV → Mem → Prop} : WP d 179 27 [l0, l1, l2, l3, l4, some (vi x)] (st) M Q = WP d 179 29 [l0, l1, l2, l3, l4, some (vi x)] (vi x :: st) M Q := w1 mC_179 d179_27 rfl rfl
theorem d179_29 : decode cX12_worked 29 = .ok (.iconst 5, 1) := by decide +kernel
theorem k179_29 {d : Nat} {l0 l1 l2 l3 l4 l5 : Option PV} {st : List PV} {M : Mem} {Q : Option PV → Mem → Prop} : WP d 179 29 [l0, l1, l2, l3, l4, l5] (st) M Q = WP d 179 30 [l0, l1, l2, l3, l4, l5] (vi 5 :: st) M Q := w_iconst mC_179 d179_29 (by decide)
theorem d179_30 : decode cX12_worked 30 = .ok (.if_icmp .gt 37, 3) := by decide +kernel
theorem k179_30 {d : Nat} {l0 l1 l2 l3 l4 l5 : Option PV} {st : List PV} {M : Mem} {Q : Option PV → Mem → Prop} {x y : Int32} : WP d 179 30 [l0, l1, l2, l3, l4, l5] (vi y :: vi x :: st) M Q = (if y < x then WP d 179 67 [l0, l1, l2, l3, l4, l5] (st) M Q else WP d 179 33 [l0, l1, l2, l3, l4, l5] (st) M Q) := w_ic_gt mC_179 d179_30 (by decide)
theorem d179_33 : decode cX12_worked 33 = .ok (.aload_n 0, 1) := by decide +kernel
theorem k179_33 {d x : Nat} {l1 l2 l3 l4 l5 : Option PV} {st : List PV} {M : Mem} {Q : Option PV → Mem → Prop} : WP d 179 33 [some (vr x), l1, l2, l3, l4, l5] (st) M Q = WP d 179 34 [some (vr x), l1, l2, l3, l4, l5] (vr x :: st) M Q := w1 mC_179 d179_33 rfl rfl
theorem d179_34 : decode cX12_worked 34 = .ok (.getfield 45, 3) := by decide +kernel
theorem k179_34 {d : Nat} {l0 l1 l2 l3 l4 l5 : Option PV} {st : List PV} {M : Mem} {Q : Option PV → Mem → Prop} {r : Nat} (hk : mK M r = 12) : WP d 179 34 [l0, l1, l2, l3, l4, l5] (vr r :: st) M Q = WP d 179 37 [l0, l1, l2, l3, l4, l5] (vr (mR M r 20) :: st) M Q := w_getr mC_179 d179_34 fE_12_45 rfl (by rw [hk]; rfl)
theorem d179_37 : decode cX12_worked 37 = .ok (.iload_n 3, 1) := by decide +kernel
theorem k179_37 {d : Nat} {x : Int32} {l0 l1 l2 l4 l5 : Option PV} {st : List PV} {M : Mem} {Q : Option PV → Mem → Prop} : WP d 179 37 [l0, l1, l2, some (vi x), l4, l5] (st) M Q = WP d 179 38 [l0, l1, l2, some (vi x), l4, l5] (vi x :: st) M Q := w1 mC_179 d179_37 rfl rfl
theorem d179_38 : decode cX12_worked 38 = .ok (.iinc 3 1, 3) := by decide +kernel
theorem k179_38 {d : Nat} {x : Int32} {l0 l1 l2 l4 l5 : Option PV} {st : List PV} {M : Mem} {Q : Option PV → Mem → Prop} : WP d 179 38 [l0, l1, l2, some (vi x), l4, l5] (st) M Q = WP d 179 41 [l0, l1, l2, some (vi (x + 1)), l4, l5] (st) M Q := w_iinc mC_179 d179_38 rfl (by decide) rfl
theorem d179_41 : decode cX12_worked 41 = .ok (.iload 5, 2) := by decide +kernel
theorem k179_41 {d : Nat} {x : Int32} {l0 l1 l2 l3 l4 : Option PV} {st : List PV} {M : Mem} {Q : Option PV → Mem → Prop} : WP d 179 41 [l0, l1, l2, l3, l4, some (vi x)] (st) M Q = WP d 179 43 [l0, l1, l2, l3, l4, some (vi x)] (vi x :: st) M Q := w1 mC_179 d179_41 rfl rfl
theorem d179_43 : decode cX12_worked 43 = .ok (.bipush 18, 2) := by decide +kernel
theorem k179_43 {d : Nat} {l0 l1 l2 l3 l4 l5 : Option PV} {st : List PV} {M : Mem} {Q : Option PV → Mem → Prop} : WP d 179 43 [l0, l1, l2, l3, l4, l5] (st) M Q = WP d 179 45 [l0, l1, l2, l3, l4, l5] (vi 18 :: st) M Q := w_bipush mC_179 d179_43 (by decide)
theorem d179_45 : decode cX12_worked 45 = .ok (.if_icmp .lt 11, 3) := by decide +kernel
theorem k179_45 {d : Nat} {l0 l1 l2 l3 l4 l5 : Option PV} {st : List PV} {M : Mem} {Q : Option PV → Mem → Prop} {x y : Int32} : WP d 179 45 [l0, l1, l2, l3, l4, l5] (vi y :: vi x :: st) M Q = (if x < y then WP d 179 56 [l0, l1, l2, l3, l4, l5] (st) M Q else WP d 179 48 [l0, l1, l2, l3, l4, l5] (st) M Q) := w_ic_lt mC_179 d179_45 (by decide)
theorem d179_48 : decode cX12_worked 48 = .ok (.iload 5, 2) := by decide +kernel
theorem k179_48 {d : Nat} {x : Int32} {l0 l1 l2 l3 l4 : Option PV} {st : List PV} {M : Mem} {Q : Option PV → Mem → Prop} : WP d 179 48 [l0, l1, l2, l3, l4, some (vi x)] (st) M Q = WP d 179 50 [l0, l1, l2, l3, l4, some (vi x)] (vi x :: st) M Q := w1 mC_179 d179_48 rfl rfl
theorem d179_50 : decode cX12_worked 50 = .ok (.bipush 18, 2) := by decide +kernel
theorem k179_50 {d : Nat} {l0 l1 l2 l3 l4 l5 : Option PV} {st : List PV} {M : Mem} {Q : Option PV → Mem → Prop} : WP d 179 50 [l0, l1, l2, l3, l4, l5] (st) M Q = WP d 179 52 [l0, l1, l2, l3, l4, l5] (vi 18 :: st) M Q := w_bipush mC_179 d179_50 (by decide)
theorem d179_52 : decode cX12_worked 52 = .ok (.isub, 1) := by decide +kernel
theorem k179_52 {d : Nat} {l0 l1 l2 l3 l4 l5 : Option PV} {st : List PV} {M : Mem} {Q : Option PV → Mem → Prop} {x y : Int32} : WP d 179 52 [l0, l1, l2, l3, l4, l5] (vi y :: vi x :: st) M Q = WP d 179 53 [l0, l1, l2, l3, l4, l5] (vi (x - y) :: st) M Q := w1 mC_179 d179_52 rfl rfl
theorem d179_53 : decode cX12_worked 53 = .ok (.goto 10, 3) := by decide +kernel
theorem k179_53 {d : Nat} {l0 l1 l2 l3 l4 l5 : Option PV} {st : List PV} {M : Mem} {Q : Option PV → Mem → Prop} : WP d 179 53 [l0, l1, l2, l3, l4, l5] (st) M Q = WP d 179 63 [l0, l1, l2, l3, l4, l5] (st) M Q := w_goto mC_179 d179_53 (by decide)
theorem d179_56 : decode cX12_worked 56 = .ok (.aload_n 0, 1) := by decide +kernel
theorem k179_56 {d x : Nat} {l1 l2 l3 l4 l5 : Option PV} {st : List PV} {M : Mem} {Q : Option PV → Mem → Prop} : WP d 179 56 [some (vr x), l1, l2, l3, l4, l5] (st) M Q = WP d 179 57 [some (vr x), l1, l2, l3, l4, l5] (vr x :: st) M Q := w1 mC_179 d179_56 rfl rfl
theorem d179_57 : decode cX12_worked 57 = .ok (.getfield 48, 3) := by decide +kernel
theorem k179_57 {d : Nat} {l0 l1 l2 l3 l4 l5 : Option PV} {st : List PV} {M : Mem} {Q : Option PV → Mem → Prop} {r : Nat} (hk : mK M r = 12) : WP d 179 57 [l0, l1, l2, l3, l4, l5] (vr r :: st) M Q = WP d 179 60 [l0, l1, l2, l3, l4, l5] (vr (mR M r 21) :: st) M Q := w_getr mC_179 d179_57 fE_12_48 rfl (by rw [hk]; rfl)
theorem d179_60 : decode cX12_worked 60 = .ok (.iload 5, 2) := by decide +kernel
theorem k179_60 {d : Nat} {x : Int32} {l0 l1 l2 l3 l4 : Option PV} {st : List PV} {M : Mem} {Q : Option PV → Mem → Prop} : WP d 179 60 [l0, l1, l2, l3, l4, some (vi x)] (st) M Q = WP d 179 62 [l0, l1, l2, l3, l4, some (vi x)] (vi x :: st) M Q := w1 mC_179 d179_60 rfl rfl
theorem d179_62 : decode cX12_worked 62 = .ok (.iaload, 1) := by decide +kernel
theorem k179_62 {d : Nat} {l0 l1 l2 l3 l4 l5 : Option PV} {st : List PV} {M : Mem} {Q : Option PV → Mem → Prop} {r : Nat} {j : Int32} (hk : mK M r = 13) (hj : inb j (mN M r)) (h1 : r ≠ 1) : WP d 179 62 [l0, l1, l2, l3, l4, l5] (vi j :: vr r :: st) M Q = WP d 179 63 [l0, l1, l2, l3, l4, l5] (vi (mI M r (ix j)) :: st) M Q := w_iald mC_179 d179_62 (by decide) hk hj h1
theorem d179_63 : decode cX12_worked 63 = .ok (.iastore, 1) := by decide +kernel
theorem k179_63 {d : Nat} {l0 l1 l2 l3 l4 l5 : Option PV} {st : List PV} {M : Mem} {Q : Option PV → Mem → Prop} {r : Nat} {j x : Int32} (hk : mK M r = 13) (hj : inb j (mN M r)) (h1 : r ≠ 1) : WP d 179 63 [l0, l1, l2, l3, l4, l5] (vi x :: vi j :: vr r :: st) M Q = WP d 179 64 [l0, l1, l2, l3, l4, l5] (st) (sI M r (ix j) x) Q := w_iast mC_179 d179_63 hk hj h1
theorem d179_64 : decode cX12_worked 64 = .ok (.goto 93, 3) := by decide +kernel
theorem k179_64 {d : Nat} {l0 l1 l2 l3 l4 l5 : Option PV} {st : List PV} {M : Mem} {Q : Option PV → Mem → Prop} : WP d 179 64 [l0, l1, l2, l3, l4, l5] (st) M Q = WP d 179 157 [l0, l1, l2, l3, l4, l5] (st) M Q := w_goto mC_179 d179_64 (by decide)
theorem d179_67 : decode cX12_worked 67 = .ok (.iload 5, 2) := by decide +kernel
theorem k179_67 {d : Nat} {x : Int32} {l0 l1 l2 l3 l4 : Option PV} {st : List PV} {M : Mem} {Q : Option PV → Mem → Prop} : WP d 179 67 [l0, l1, l2, l3, l4, some (vi x)] (st) M Q = WP d 179 69 [l0, l1, l2, l3, l4, some (vi x)] (vi x :: st) M Q := w1 mC_179 d179_67 rfl rfl
theorem d179_69 : decode cX12_worked 69 = .ok (.bipush 16, 2) := by decide +kernel
theorem k179_69 {d : Nat} {l0 l1 l2 l3 l4 l5 : Option PV} {st : List PV} {M : Mem} {Q : Option PV → Mem → Prop} : WP d 179 69 [l0, l1, l2, l3, l4, l5] (st) M Q = WP d 179 71 [l0, l1, l2, l3, l4, l5] (vi 16 :: st) M Q := w_bipush mC_179 d179_69 (by decide)
theorem d179_71 : decode cX12_worked 71 = .ok (.if_icmp .eq 10, 3) := by decide +kernel
theorem k179_71 {d : Nat} {l0 l1 l2 l3 l4 l5 : Option PV} {st : List PV} {M : Mem} {Q : Option PV → Mem → Prop} {x y : Int32} : WP d 179 71 [l0, l1, l2, l3, l4, l5] (vi y :: vi x :: st) M Q = (if x = y then WP d 179 81 [l0, l1, l2, l3, l4, l5] (st) M Q else WP d 179 74 [l0, l1, l2, l3, l4, l5] (st) M Q) := w_ic_eq mC_179 d179_71 (by decide)
theorem d179_74 : decode cX12_worked 74 = .ok (.iload 5, 2) := by decide +kernel
theorem k179_74 {d : Nat} {x : Int32} {l0 l1 l2 l3 l4 : Option PV} {st : List PV} {M : Mem} {Q : Option PV → Mem → Prop} : WP d 179 74 [l0, l1, l2, l3, l4, some (vi x)] (st) M Q = WP d 179 76 [l0, l1, l2, l3, l4, some (vi x)] (vi x :: st) M Q := w1 mC_179 d179_74 rfl rfl
theorem d179_76 : decode cX12_worked 76 = .ok (.bipush 17, 2) := by decide +kernel
theorem k179_76 {d : Nat} {l0 l1 l2 l3 l4 l5 : Option PV} {st : List PV} {M : Mem} {Q : Option PV → Mem → Prop} : WP d 179 76 [l0, l1, l2, l3, l4, l5] (st) M Q = WP d 179 78 [l0, l1, l2, l3, l4, l5] (vi 17 :: st) M Q := w_bipush mC_179 d179_76 (by decide)
theorem d179_78 : decode cX12_worked 78 = .ok (.if_icmp .ne 49, 3) := by decide +kernel
theorem k179_78 {d : Nat} {l0 l1 l2 l3 l4 l5 : Option PV} {st : List PV} {M : Mem} {Q : Option PV → Mem → Prop} {x y : Int32} : WP d 179 78 [l0, l1, l2, l3, l4, l5] (vi y :: vi x :: st) M Q = (if x = y then WP d 179 81 [l0, l1, l2, l3, l4, l5] (st) M Q else WP d 179 127 [l0, l1, l2, l3, l4, l5] (st) M Q) := w_ic_ne mC_179 d179_78 (by decide)
theorem d179_81 : decode cX12_worked 81 = .ok (.aload_n 0, 1) := by decide +kernel
theorem k179_81 {d x : Nat} {l1 l2 l3 l4 l5 : Option PV} {st : List PV} {M : Mem} {Q : Option PV → Mem → Prop} : WP d 179 81 [some (vr x), l1, l2, l3, l4, l5] (st) M Q = WP d 179 82 [some (vr x), l1, l2, l3, l4, l5] (vr x :: st) M Q := w1 mC_179 d179_81 rfl rfl
theorem d179_82 : decode cX12_worked 82 = .ok (.getfield 45, 3) := by decide +kernel
theorem k179_82 {d : Nat} {l0 l1 l2 l3 l4 l5 : Option PV} {st : List PV} {M : Mem} {Q : Option PV → Mem → Prop} {r : Nat} (hk : mK M r = 12) : WP d 179 82 [l0, l1, l2, l3, l4, l5] (vr r :: st) M Q = WP d 179 85 [l0, l1, l2, l3, l4, l5] (vr (mR M r 20) :: st) M Q := w_getr mC_179 d179_82 fE_12_45 rfl (by rw [hk]; rfl)
theorem d179_85 : decode cX12_worked 85 = .ok (.iload_n 3, 1) := by decide +kernel
theorem k179_85 {d : Nat} {x : Int32} {l0 l1 l2 l4 l5 : Option PV} {st : List PV} {M : Mem} {Q : Option PV → Mem → Prop} : WP d 179 85 [l0, l1, l2, some (vi x), l4, l5] (st) M Q = WP d 179 86 [l0, l1, l2, some (vi x), l4, l5] (vi x :: st) M Q := w1 mC_179 d179_85 rfl rfl
theorem d179_86 : decode cX12_worked 86 = .ok (.iconst 1, 1) := by decide +kernel
theorem k179_86 {d : Nat} {l0 l1 l2 l3 l4 l5 : Option PV} {st : List PV} {M : Mem} {Q : Option PV → Mem → Prop} : WP d 179 86 [l0, l1, l2, l3, l4, l5] (st) M Q = WP d 179 87 [l0, l1, l2, l3, l4, l5] (vi 1 :: st) M Q := w_iconst mC_179 d179_86 (by decide)
theorem d179_87 : decode cX12_worked 87 = .ok (.isub, 1) := by decide +kernel
theorem k179_87 {d : Nat} {l0 l1 l2 l3 l4 l5 : Option PV} {st : List PV} {M : Mem} {Q : Option PV → Mem → Prop} {x y : Int32} : WP d 179 87 [l0, l1, l2, l3, l4, l5] (vi y :: vi x :: st) M Q = WP d 179 88 [l0, l1, l2, l3, l4, l5] (vi (x - y) :: st) M Q := w1 mC_179 d179_87 rfl rfl
theorem d179_88 : decode cX12_worked 88 = .ok (.iload 5, 2) := by decide +kernel
theorem k179_88 {d : Nat} {x : Int32} {l0 l1 l2 l3 l4 : Option PV} {st : List PV} {M : Mem} {Q : Option PV → Mem → Prop} : WP d 179 88 [l0, l1, l2, l3, l4, some (vi x)] (st) M Q = WP d 179 90 [l0, l1, l2, l3, l4, some (vi x)] (vi x :: st) M Q := w1 mC_179 d179_88 rfl rfl
theorem d179_90 : decode cX12_worked 90 = .ok (.bipush 17, 2) := by decide +kernel
theorem k179_90 {d : Nat} {l0 l1 l2 l3 l4 l5 : Option PV} {st : List PV} {M : Mem} {Q : Option PV → Mem → Prop} : WP d 179 90 [l0, l1, l2, l3, l4, l5] (st) M Q = WP d 179 92 [l0, l1, l2, l3, l4, l5] (vi 17 :: st) M Q := w_bipush mC_179 d179_90 (by decide)
theorem d179_92 : decode cX12_worked 92 = .ok (.if_icmp .ne 15, 3) := by decide +kernel
theorem k179_92 {d : Nat} {l0 l1 l2 l3 l4 l5 : Option PV} {st : List PV} {M : Mem} {Q : Option PV → Mem → Prop} {x y : Int32} : WP d 179 92 [l0, l1, l2, l3, l4, l5] (vi y :: vi x :: st) M Q = (if x = y then WP d 179 95 [l0, l1, l2, l3, l4, l5] (st) M Q else WP d 179 107 [l0, l1, l2, l3, l4, l5] (st) M Q) := w_ic_ne mC_179 d179_92 (by decide)
theorem d179_95 : decode cX12_worked 95 = .ok (.aload_n 0, 1) := by decide +kernel
theorem k179_95 {d x : Nat} {l1 l2 l3 l4 l5 : Option PV} {st : List PV} {M : Mem} {Q : Option PV → Mem → Prop} : WP d 179 95 [some (vr x), l1, l2, l3, l4, l5] (st) M Q = WP d 179 96 [some (vr x), l1, l2, l3, l4, l5] (vr x :: st) M Q := w1 mC_179 d179_95 rfl rfl
theorem d179_96 : decode cX12_worked 96 = .ok (.getfield 45, 3) := by decide +kernel
theorem k179_96 {d : Nat} {l0 l1 l2 l3 l4 l5 : Option PV} {st : List PV} {M : Mem} {Q : Option PV → Mem → Prop} {r : Nat} (hk : mK M r = 12) : WP d 179 96 [l0, l1, l2, l3, l4, l5] (vr r :: st) M Q = WP d 179 99 [l0, l1, l2, l3, l4, l5] (vr (mR M r 20) :: st) M Q := w_getr mC_179 d179_96 fE_12_45 rfl (by rw [hk]; rfl)
theorem d179_99 : decode cX12_worked 99 = .ok (.iload_n 3, 1) := by decide +kernel
theorem k179_99 {d : Nat} {x : Int32} {l0 l1 l2 l4 l5 : Option PV} {st : List PV} {M : Mem} {Q : Option PV → Mem → Prop} : WP d 179 99 [l0, l1, l2, some (vi x), l4, l5] (st) M Q = WP d 179 100 [l0, l1, l2, some (vi x), l4, l5] (vi x :: st) M Q := w1 mC_179 d179_99 rfl rfl
theorem d179_100 : decode cX12_worked 100 = .ok (.iconst 1, 1) := by decide +kernel
theorem k179_100 {d : Nat} {l0 l1 l2 l3 l4 l5 : Option PV} {st : List PV} {M : Mem} {Q : Option PV → Mem → Prop} : WP d 179 100 [l0, l1, l2, l3, l4, l5] (st) M Q = WP d 179 101 [l0, l1, l2, l3, l4, l5] (vi 1 :: st) M Q := w_iconst mC_179 d179_100 (by decide)
theorem d179_101 : decode cX12_worked 101 = .ok (.isub, 1) := by decide +kernel
theorem k179_101 {d : Nat} {l0 l1 l2 l3 l4 l5 : Option PV} {st : List PV} {M : Mem} {Q : Option PV → Mem → Prop} {x y : Int32} : WP d 179 101 [l0, l1, l2, l3, l4, l5] (vi y :: vi x :: st) M Q = WP d 179 102 [l0, l1, l2, l3, l4, l5] (vi (x - y) :: st) M Q := w1 mC_179 d179_101 rfl rfl
theorem d179_102 : decode cX12_worked 102 = .ok (.iaload, 1) := by decide +kernel
theorem k179_102 {d : Nat} {l0 l1 l2 l3 l4 l5 : Option PV} {st : List PV} {M : Mem} {Q : Option PV → Mem → Prop} {r : Nat} {j : Int32} (hk : mK M r = 13) (hj : inb j (mN M r)) (h1 : r ≠ 1) : WP d 179 102 [l0, l1, l2, l3, l4, l5] (vi j :: vr r :: st) M Q = WP d 179 103 [l0, l1, l2, l3, l4, l5] (vi (mI M r (ix j)) :: st) M Q := w_iald mC_179 d179_102 (by decide) hk hj h1
theorem d179_103 : decode cX12_worked 103 = .ok (.ineg, 1) := by decide +kernel
theorem k179_103 {d : Nat} {l0 l1 l2 l3 l4 l5 : Option PV} {st : List PV} {M : Mem} {Q : Option PV → Mem → Prop} {x : Int32} : WP d 179 103 [l0, l1, l2, l3, l4, l5] (vi x :: st) M Q = WP d 179 104 [l0, l1, l2, l3, l4, l5] (vi (-x) :: st) M Q := w1 mC_179 d179_103 rfl rfl
theorem d179_104 : decode cX12_worked 104 = .ok (.goto 19, 3) := by decide +kernel
theorem k179_104 {d : Nat} {l0 l1 l2 l3 l4 l5 : Option PV} {st : List PV} {M : Mem} {Q : Option PV → Mem → Prop} : WP d 179 104 [l0, l1, l2, l3, l4, l5] (st) M Q = WP d 179 123 [l0, l1, l2, l3, l4, l5] (st) M Q := w_goto mC_179 d179_104 (by decide)
theorem d179_107 : decode cX12_worked 107 = .ok (.aload_n 0, 1) := by decide +kernel
theorem k179_107 {d x : Nat} {l1 l2 l3 l4 l5 : Option PV} {st : List PV} {M : Mem} {Q : Option PV → Mem → Prop} : WP d 179 107 [some (vr x), l1, l2, l3, l4, l5] (st) M Q = WP d 179 108 [some (vr x), l1, l2, l3, l4, l5] (vr x :: st) M Q := w1 mC_179 d179_107 rfl rfl
theorem d179_108 : decode cX12_worked 108 = .ok (.getfield 45, 3) := by decide +kernel
theorem k179_108 {d : Nat} {l0 l1 l2 l3 l4 l5 : Option PV} {st : List PV} {M : Mem} {Q : Option PV → Mem → Prop} {r : Nat} (hk : mK M r = 12) : WP d 179 108 [l0, l1, l2, l3, l4, l5] (vr r :: st) M Q = WP d 179 111 [l0, l1, l2, l3, l4, l5] (vr (mR M r 20) :: st) M Q := w_getr mC_179 d179_108 fE_12_45 rfl (by rw [hk]; rfl)
theorem d179_111 : decode cX12_worked 111 = .ok (.iload_n 3, 1) := by decide +kernel
theorem k179_111 {d : Nat} {x : Int32} {l0 l1 l2 l4 l5 : Option PV} {st : List PV} {M : Mem} {Q : Option PV → Mem → Prop} : WP d 179 111 [l0, l1, l2, some (vi x), l4, l5] (st) M Q = WP d 179 112 [l0, l1, l2, some (vi x), l4, l5] (vi x :: st) M Q := w1 mC_179 d179_111 rfl rfl
theorem d179_112 : decode cX12_worked 112 = .ok (.iconst 1, 1) := by decide +kernel
theorem k179_112 {d : Nat} {l0 l1 l2 l3 l4 l5 : Option PV} {st : List PV} {M : Mem} {Q : Option PV → Mem → Prop} : WP d 179 112 [l0, l1, l2, l3, l4, l5] (st) M Q = WP d 179 113 [l0, l1, l2, l3, l4, l5] (vi 1 :: st) M Q := w_iconst mC_179 d179_112 (by decide)
theorem d179_113 : decode cX12_worked 113 = .ok (.isub, 1) := by decide +kernel
theorem k179_113 {d : Nat} {l0 l1 l2 l3 l4 l5 : Option PV} {st : List PV} {M : Mem} {Q : Option PV → Mem → Prop} {x y : Int32} : WP d 179 113 [l0, l1, l2, l3, l4, l5] (vi y :: vi x :: st) M Q = WP d 179 114 [l0, l1, l2, l3, l4, l5] (vi (x - y) :: st) M Q := w1 mC_179 d179_113 rfl rfl
theorem d179_114 : decode cX12_worked 114 = .ok (.iaload, 1) := by decide +kernel
theorem k179_114 {d : Nat} {l0 l1 l2 l3 l4 l5 : Option PV} {st : List PV} {M : Mem} {Q : Option PV → Mem → Prop} {r : Nat} {j : Int32} (hk : mK M r = 13) (hj : inb j (mN M r)) (h1 : r ≠ 1) : WP d 179 114 [l0, l1, l2, l3, l4, l5] (vi j :: vr r :: st) M Q = WP d 179 115 [l0, l1, l2, l3, l4, l5] (vi (mI M r (ix j)) :: st) M Q := w_iald mC_179 d179_114 (by decide) hk hj h1
theorem d179_115 : decode cX12_worked 115 = .ok (.ifCond .ne 7, 3) := by decide +kernel
theorem k179_115 {d : Nat} {l0 l1 l2 l3 l4 l5 : Option PV} {st : List PV} {M : Mem} {Q : Option PV → Mem → Prop} {x : Int32} : WP d 179 115 [l0, l1, l2, l3, l4, l5] (vi x :: st) M Q = (if x = 0 then WP d 179 118 [l0, l1, l2, l3, l4, l5] (st) M Q else WP d 179 122 [l0, l1, l2, l3, l4, l5] (st) M Q) := w_if_ne mC_179 d179_115 (by decide)
theorem d179_118 : decode cX12_worked 118 = .ok (.iconst 1, 1) := by decide +kernel
theorem k179_118 {d : Nat} {l0 l1 l2 l3 l4 l5 : Option PV} {st : List PV} {M : Mem} {Q : Option PV → Mem → Prop} : WP d 179 118 [l0, l1, l2, l3, l4, l5] (st) M Q = WP d 179 119 [l0, l1, l2, l3, l4, l5] (vi 1 :: st) M Q := w_iconst mC_179 d179_118 (by decide)
theorem d179_119 : decode cX12_worked 119 = .ok (.goto 4, 3) := by decide +kernel
theorem k179_119 {d : Nat} {l0 l1 l2 l3 l4 l5 : Option PV} {st : List PV} {M : Mem} {Q : Option PV → Mem → Prop} : WP d 179 119 [l0, l1, l2, l3, l4, l5] (st) M Q = WP d 179 123 [l0, l1, l2, l3, l4, l5] (st) M Q := w_goto mC_179 d179_119 (by decide)
theorem d179_122 : decode cX12_worked 122 = .ok (.iconst 0, 1) := by decide +kernel
theorem k179_122 {d : Nat} {l0 l1 l2 l3 l4 l5 : Option PV} {st : List PV} {M : Mem} {Q : Option PV → Mem → Prop} : WP d 179 122 [l0, l1, l2, l3, l4, l5] (st) M Q = WP d 179 123 [l0, l1, l2, l3, l4, l5] (vi 0 :: st) M Q := w_iconst mC_179 d179_122 (by decide)
theorem d179_123 : decode cX12_worked 123 = .ok (.iastore, 1) := by decide +kernel
theorem k179_123 {d : Nat} {l0 l1 l2 l3 l4 l5 : Option PV} {st : List PV} {M : Mem} {Q : Option PV → Mem → Prop} {r : Nat} {j x : Int32} (hk : mK M r = 13) (hj : inb j (mN M r)) (h1 : r ≠ 1) : WP d 179 123 [l0, l1, l2, l3, l4, l5] (vi x :: vi j :: vr r :: st) M Q = WP d 179 124 [l0, l1, l2, l3, l4, l5] (st) (sI M r (ix j) x) Q := w_iast mC_179 d179_123 hk hj h1
theorem d179_124 : decode cX12_worked 124 = .ok (.goto 33, 3) := by decide +kernel
theorem k179_124 {d : Nat} {l0 l1 l2 l3 l4 l5 : Option PV} {st : List PV} {M : Mem} {Q : Option PV → Mem → Prop} : WP d 179 124 [l0, l1, l2, l3, l4, l5] (st) M Q = WP d 179 157 [l0, l1, l2, l3, l4, l5] (st) M Q := w_goto mC_179 d179_124 (by decide)
theorem d179_127 : decode cX12_worked 127 = .ok (.iinc 3 (-1), 3) := by decide +kernel
theorem k179_127 {d : Nat} {x : Int32} {l0 l1 l2 l4 l5 : Option PV} {st : List PV} {M : Mem} {Q : Option PV → Mem → Prop} : WP d 179 127 [l0, l1, l2, some (vi x), l4, l5] (st) M Q = WP d 179 130 [l0, l1, l2, some (vi (x + (-1))), l4, l5] (st) M Q := w_iinc mC_179 d179_127 rfl (by decide) rfl
theorem d179_130 : decode cX12_worked 130 = .ok (.aload_n 0, 1) := by decide +kernel
theorem k179_130 {d x : Nat} {l1 l2 l3 l4 l5 : Option PV} {st : List PV} {M : Mem} {Q : Option PV → Mem → Prop} : WP d 179 130 [some (vr x), l1, l2, l3, l4, l5] (st) M Q = WP d 179 131 [some (vr x), l1, l2, l3, l4, l5] (vr x :: st) M Q := w1 mC_179 d179_130 rfl rfl
theorem d179_131 : decode cX12_worked 131 = .ok (.getfield 45, 3) := by decide +kernel
theorem k179_131 {d : Nat} {l0 l1 l2 l3 l4 l5 : Option PV} {st : List PV} {M : Mem} {Q : Option PV → Mem → Prop} {r : Nat} (hk : mK M r = 12) : WP d 179 131 [l0, l1, l2, l3, l4, l5] (vr r :: st) M Q = WP d 179 134 [l0, l1, l2, l3, l4, l5] (vr (mR M r 20) :: st) M Q := w_getr mC_179 d179_131 fE_12_45 rfl (by rw [hk]; rfl)
theorem d179_134 : decode cX12_worked 134 = .ok (.iload_n 3, 1) := by decide +kernel
theorem k179_134 {d : Nat} {x : Int32} {l0 l1 l2 l4 l5 : Option PV} {st : List PV} {M : Mem} {Q : Option PV → Mem → Prop} : WP d 179 134 [l0, l1, l2, some (vi x), l4, l5] (st) M Q = WP d 179 135 [l0, l1, l2, some (vi x), l4, l5] (vi x :: st) M Q := w1 mC_179 d179_134 rfl rfl
theorem d179_135 : decode cX12_worked 135 = .ok (.iconst 1, 1) := by decide +kernel
theorem k179_135 {d : Nat} {l0 l1 l2 l3 l4 l5 : Option PV} {st : List PV} {M : Mem} {Q : Option PV → Mem → Prop} : WP d 179 135 [l0, l1, l2, l3, l4, l5] (st) M Q = WP d 179 136 [l0, l1, l2, l3, l4, l5] (vi 1 :: st) M Q := w_iconst mC_179 d179_135 (by decide)
theorem d179_136 : decode cX12_worked 136 = .ok (.isub, 1) := by decide +kernel
theorem k179_136 {d : Nat} {l0 l1 l2 l3 l4 l5 : Option PV} {st : List PV} {M : Mem} {Q : Option PV → Mem → Prop} {x y : Int32} : WP d 179 136 [l0, l1, l2, l3, l4, l5] (vi y :: vi x :: st) M Q = WP d 179 137 [l0, l1, l2, l3, l4, l5] (vi (x - y) :: st) M Q := w1 mC_179 d179_136 rfl rfl
theorem d179_137 : decode cX12_worked 137 = .ok (.iload 5, 2) := by decide +kernel
theorem k179_137 {d : Nat} {x : Int32} {l0 l1 l2 l3 l4 : Option PV} {st : List PV} {M : Mem} {Q : Option PV → Mem → Prop} : WP d 179 137 [l0, l1, l2, l3, l4, some (vi x)] (st) M Q = WP d 179 139 [l0, l1, l2, l3, l4, some (vi x)] (vi x :: st) M Q := w1 mC_179 d179_137 rfl rfl
theorem d179_139 : decode cX12_worked 139 = .ok (.aload_n 0, 1) := by decide +kernel
theorem k179_139 {d x : Nat} {l1 l2 l3 l4 l5 : Option PV} {st : List PV} {M : Mem} {Q : Option PV → Mem → Prop} : WP d 179 139 [some (vr x), l1, l2, l3, l4, l5] (st) M Q = WP d 179 140 [some (vr x), l1, l2, l3, l4, l5] (vr x :: st) M Q := w1 mC_179 d179_139 rfl rfl
theorem d179_140 : decode cX12_worked 140 = .ok (.getfield 45, 3) := by decide +kernel
theorem k179_140 {d : Nat} {l0 l1 l2 l3 l4 l5 : Option PV} {st : List PV} {M : Mem} {Q : Option PV → Mem → Prop} {r : Nat} (hk : mK M r = 12) : WP d 179 140 [l0, l1, l2, l3, l4, l5] (vr r :: st) M Q = WP d 179 143 [l0, l1, l2, l3, l4, l5] (vr (mR M r 20) :: st) M Q := w_getr mC_179 d179_140 fE_12_45 rfl (by rw [hk]; rfl)
theorem d179_143 : decode cX12_worked 143 = .ok (.iload_n 3, 1) := by decide +kernel
theorem k179_143 {d : Nat} {x : Int32} {l0 l1 l2 l4 l5 : Option PV} {st : List PV} {M : Mem} {Q : Option PV → Mem → Prop} : WP d 179 143 [l0, l1, l2, some (vi x), l4, l5] (st) M Q = WP d 179 144 [l0, l1, l2, some (vi x), l4, l5] (vi x :: st) M Q := w1 mC_179 d179_143 rfl rfl
theorem d179_144 : decode cX12_worked 144 = .ok (.iconst 1, 1) := by decide +kernel
theorem k179_144 {d : Nat} {l0 l1 l2 l3 l4 l5 : Option PV} {st : List PV} {M : Mem} {Q : Option PV → Mem → Prop} : WP d 179 144 [l0, l1, l2, l3, l4, l5] (st) M Q = WP d 179 145 [l0, l1, l2, l3, l4, l5] (vi 1 :: st) M Q := w_iconst mC_179 d179_144 (by decide)
theorem d179_145 : decode cX12_worked 145 = .ok (.isub, 1) := by decide +kernel
theorem k179_145 {d : Nat} {l0 l1 l2 l3 l4 l5 : Option PV} {st : List PV} {M : Mem} {Q : Option PV → Mem → Prop} {x y : Int32} : WP d 179 145 [l0, l1, l2, l3, l4, l5] (vi y :: vi x :: st) M Q = WP d 179 146 [l0, l1, l2, l3, l4, l5] (vi (x - y) :: st) M Q := w1 mC_179 d179_145 rfl rfl
theorem d179_146 : decode cX12_worked 146 = .ok (.iaload, 1) := by decide +kernel
theorem k179_146 {d : Nat} {l0 l1 l2 l3 l4 l5 : Option PV} {st : List PV} {M : Mem} {Q : Option PV → Mem → Prop} {r : Nat} {j : Int32} (hk : mK M r = 13) (hj : inb j (mN M r)) (h1 : r ≠ 1) : WP d 179 146 [l0, l1, l2, l3, l4, l5] (vi j :: vr r :: st) M Q = WP d 179 147 [l0, l1, l2, l3, l4, l5] (vi (mI M r (ix j)) :: st) M Q := w_iald mC_179 d179_146 (by decide) hk hj h1
theorem d179_147 : decode cX12_worked 147 = .ok (.aload_n 0, 1) := by decide +kernel
theorem k179_147 {d x : Nat} {l1 l2 l3 l4 l5 : Option PV} {st : List PV} {M : Mem} {Q : Option PV → Mem → Prop} : WP d 179 147 [some (vr x), l1, l2, l3, l4, l5] (st) M Q = WP d 179 148 [some (vr x), l1, l2, l3, l4, l5] (vr x :: st) M Q := w1 mC_179 d179_147 rfl rfl
theorem d179_148 : decode cX12_worked 148 = .ok (.getfield 45, 3) := by decide +kernel
theorem k179_148 {d : Nat} {l0 l1 l2 l3 l4 l5 : Option PV} {st : List PV} {M : Mem} {Q : Option PV → Mem → Prop} {r : Nat} (hk : mK M r = 12) : WP d 179 148 [l0, l1, l2, l3, l4, l5] (vr r :: st) M Q = WP d 179 151 [l0, l1, l2, l3, l4, l5] (vr (mR M r 20) :: st) M Q := w_getr mC_179 d179_148 fE_12_45 rfl (by rw [hk]; rfl)
theorem d179_151 : decode cX12_worked 151 = .ok (.iload_n 3, 1) := by decide +kernel
theorem k179_151 {d : Nat} {x : Int32} {l0 l1 l2 l4 l5 : Option PV} {st : List PV} {M : Mem} {Q : Option PV → Mem → Prop} : WP d 179 151 [l0, l1, l2, some (vi x), l4, l5] (st) M Q = WP d 179 152 [l0, l1, l2, some (vi x), l4, l5] (vi x :: st) M Q := w1 mC_179 d179_151 rfl rfl
theorem d179_152 : decode cX12_worked 152 = .ok (.iaload, 1) := by decide +kernel
theorem k179_152 {d : Nat} {l0 l1 l2 l3 l4 l5 : Option PV} {st : List PV} {M : Mem} {Q : Option PV → Mem → Prop} {r : Nat} {j : Int32} (hk : mK M r = 13) (hj : inb j (mN M r)) (h1 : r ≠ 1) : WP d 179 152 [l0, l1, l2, l3, l4, l5] (vi j :: vr r :: st) M Q = WP d 179 153 [l0, l1, l2, l3, l4, l5] (vi (mI M r (ix j)) :: st) M Q := w_iald mC_179 d179_152 (by decide) hk hj h1
theorem d179_153 : decode cX12_worked 153 = .ok (.invokestatic 219, 3) := by decide +kernel
theorem k179_153 {d : Nat} {l0 l1 l2 l3 l4 l5 : Option PV} {st : List PV} {M : Mem} {Q : Option PV → Mem → Prop} {a0 a1 a2 : Int32} (hl : szL st ≤ 8) : WP (d + 1) 179 153 [l0, l1, l2, l3, l4, l5] (vi a2 :: vi a1 :: vi a0 :: st) M Q = WP d 178 0 [some (vi a0), some (vi a1), some (vi a2)] [] M (fun v M' => WP (d + 1) 179 156 [l0, l1, l2, l3, l4, l5] (psh v st) M' Q) := w_callS mC_179 d179_153 rfl rfl (Nat.le_of_ble_eq_true rfl) (by decide) rfl hl
theorem d179_156 : decode cX12_worked 156 = .ok (.iastore, 1) := by decide +kernel
theorem k179_156 {d : Nat} {l0 l1 l2 l3 l4 l5 : Option PV} {st : List PV} {M : Mem} {Q : Option PV → Mem → Prop} {r : Nat} {j x : Int32} (hk : mK M r = 13) (hj : inb j (mN M r)) (h1 : r ≠ 1) : WP d 179 156 [l0, l1, l2, l3, l4, l5] (vi x :: vi j :: vr r :: st) M Q = WP d 179 157 [l0, l1, l2, l3, l4, l5] (st) (sI M r (ix j) x) Q := w_iast mC_179 d179_156 hk hj h1
theorem d179_157 : decode cX12_worked 157 = .ok (.iinc 4 1, 3) := by decide +kernel
theorem k179_157 {d : Nat} {x : Int32} {l0 l1 l2 l3 l5 : Option PV} {st : List PV} {M : Mem} {Q : Option PV → Mem → Prop} : WP d 179 157 [l0, l1, l2, l3, some (vi x), l5] (st) M Q = WP d 179 160 [l0, l1, l2, l3, some (vi (x + 1)), l5] (st) M Q := w_iinc mC_179 d179_157 rfl (by decide) rfl
theorem d179_160 : decode cX12_worked 160 = .ok (.goto (-155), 3) := by decide +kernel
theorem k179_160 {d : Nat} {l0 l1 l2 l3 l4 l5 : Option PV} {st : List PV} {M : Mem} {Q : Option PV → Mem → Prop} : WP d 179 160 [l0, l1, l2, l3, l4, l5] (st) M Q = WP d 179 5 [l0, l1, l2, l3, l4, l5] (st) M Q := w_goto mC_179 d179_160 (by decide)
theorem d179_163 : decode cX12_worked 163 = .ok (.aload_n 0, 1) := by decide +kernel
theorem k179_163 {d x : Nat} {l1 l2 l3 l4 l5 : Option PV} {st : List PV} {M : Mem} {Q : Option PV → Mem → Prop} : WP d 179 163 [some (vr x), l1, l2, l3, l4, l5] (st) M Q = WP d 179 164 [some (vr x), l1, l2, l3, l4, l5] (vr x :: st) M Q := w1 mC_179 d179_163 rfl rfl
theorem d179_164 : decode cX12_worked 164 = .ok (.getfield 45, 3) := by decide +kernel
theorem k179_164 {d : Nat} {l0 l1 l2 l3 l4 l5 : Option PV} {st : List PV} {M : Mem} {Q : Option PV → Mem → Prop} {r : Nat} (hk : mK M r = 12) : WP d 179 164 [l0, l1, l2, l3, l4, l5] (vr r :: st) M Q = WP d 179 167 [l0, l1, l2, l3, l4, l5] (vr (mR M r 20) :: st) M Q := w_getr mC_179 d179_164 fE_12_45 rfl (by rw [hk]; rfl)
theorem d179_167 : decode cX12_worked 167 = .ok (.iconst 0, 1) := by decide +kernel
theorem k179_167 {d : Nat} {l0 l1 l2 l3 l4 l5 : Option PV} {st : List PV} {M : Mem} {Q : Option PV → Mem → Prop} : WP d 179 167 [l0, l1, l2, l3, l4, l5] (st) M Q = WP d 179 168 [l0, l1, l2, l3, l4, l5] (vi 0 :: st) M Q := w_iconst mC_179 d179_167 (by decide)
theorem d179_168 : decode cX12_worked 168 = .ok (.iaload, 1) := by decide +kernel
theorem k179_168 {d : Nat} {l0 l1 l2 l3 l4 l5 : Option PV} {st : List PV} {M : Mem} {Q : Option PV → Mem → Prop} {r : Nat} {j : Int32} (hk : mK M r = 13) (hj : inb j (mN M r)) (h1 : r ≠ 1) : WP d 179 168 [l0, l1, l2, l3, l4, l5] (vi j :: vr r :: st) M Q = WP d 179 169 [l0, l1, l2, l3, l4, l5] (vi (mI M r (ix j)) :: st) M Q := w_iald mC_179 d179_168 (by decide) hk hj h1
theorem d179_169 : decode cX12_worked 169 = .ok (.ireturn, 1) := by decide +kernel
theorem k179_169 {d : Nat} {l0 l1 l2 l3 l4 l5 : Option PV} {M : Mem} {Q : Option PV → Mem → Prop} {x : Int32} : WP d 179 169 [l0, l1, l2, l3, l4, l5] ([vi x]) M Q = Q (some (vi x)) M := w_iret mC_179 d179_169 rfl
theorem d180_0 : decode cX12_apart 0 = .ok (.iload_n 0, 1) := by decide +kernel
theorem k180_0 {d : Nat} {x : Int32} {l1 : Option PV} {st : List PV} {M : Mem} {Q : Option PV → Mem → Prop} : WP d 180 0 [some (vi x), l1] (st) M Q = WP d 180 1 [some (vi x), l1] (vi x :: st) M Q := w1 mC_180 d180_0 rfl rfl
theorem d180_1 : decode cX12_apart 1 = .ok (.bipush 6, 2) := by decide +kernel
theorem k180_1 {d : Nat} {l0 l1 : Option PV} {st : List PV} {M : Mem} {Q : Option PV → Mem → Prop} : WP d 180 1 [l0, l1] (st) M Q = WP d 180 3 [l0, l1] (vi 6 :: st) M Q := w_bipush mC_180 d180_1 (by decide)
theorem d180_3 : decode cX12_apart 3 = .ok (.idiv, 1) := by decide +kernel
theorem k180_3 {d : Nat} {l0 l1 : Option PV} {st : List PV} {M : Mem} {Q : Option PV → Mem → Prop} {x y : Int32} (h : y ≠ 0) : WP d 180 3 [l0, l1] (vi y :: vi x :: st) M Q = WP d 180 4 [l0, l1] (vi (x / y) :: st) M Q := w_div mC_180 d180_3 h
theorem d180_4 : decode cX12_apart 4 = .ok (.iload_n 1, 1) := by decide +kernel
theorem k180_4 {d : Nat} {x : Int32} {l0 : Option PV} {st : List PV} {M : Mem} {Q : Option PV → Mem → Prop} : WP d 180 4 [l0, some (vi x)] (st) M Q = WP d 180 5 [l0, some (vi x)] (vi x :: st) M Q := w1 mC_180 d180_4 rfl rfl
theorem d180_5 : decode cX12_apart 5 = .ok (.bipush 6, 2) := by decide +kernel
theorem k180_5 {d : Nat} {l0 l1 : Option PV} {st : List PV} {M : Mem} {Q : Option PV → Mem → Prop} : WP d 180 5 [l0, l1] (st) M Q = WP d 180 7 [l0, l1] (vi 6 :: st) M Q := w_bipush mC_180 d180_5 (by decide)
theorem d180_7 : decode cX12_apart 7 = .ok (.idiv, 1) := by decide +kernel
theorem k180_7 {d : Nat} {l0 l1 : Option PV} {st : List PV} {M : Mem} {Q : Option PV → Mem → Prop} {x y : Int32} (h : y ≠ 0) : WP d 180 7 [l0, l1] (vi y :: vi x :: st) M Q = WP d 180 8 [l0, l1] (vi (x / y) :: st) M Q := w_div mC_180 d180_7 h
theorem d180_8 : decode cX12_apart 8 = .ok (.isub, 1) := by decide +kernel
theorem k180_8 {d : Nat} {l0 l1 : Option PV} {st : List PV} {M : Mem} {Q : Option PV → Mem → Prop} {x y : Int32} : WP d 180 8 [l0, l1] (vi y :: vi x :: st) M Q = WP d 180 9 [l0, l1] (vi (x - y) :: st) M Q := w1 mC_180 d180_8 rfl rfl
theorem d180_9 : decode cX12_apart 9 = .ok (.invokestatic 223, 3) := by decide +kernel
theorem k180_9 {d : Nat} {l0 l1 : Option PV} {st : List PV} {M : Mem} {Q : Option PV → Mem → Prop} {x : Int32} (hl : szL st ≤ 8) : WP d 180 9 [l0, l1] (vi x :: st) M Q = WP d 180 12 [l0, l1] (vi (if 0 ≤ x then x else 0 - x) :: st) M Q := w_abs mC_180 d180_9 rfl rfl rfl hl
theorem d180_12 : decode cX12_apart 12 = .ok (.iload_n 0, 1) := by decide +kernel
theorem k180_12 {d : Nat} {x : Int32} {l1 : Option PV} {st : List PV} {M : Mem} {Q : Option PV → Mem → Prop} : WP d 180 12 [some (vi x), l1] (st) M Q = WP d 180 13 [some (vi x), l1] (vi x :: st) M Q := w1 mC_180 d180_12 rfl rfl
theorem d180_13 : decode cX12_apart 13 = .ok (.bipush 6, 2) := by decide +kernel
theorem k180_13 {d : Nat} {l0 l1 : Option PV} {st : List PV} {M : Mem} {Q : Option PV → Mem → Prop} : WP d 180 13 [l0, l1] (st) M Q = WP d 180 15 [l0, l1] (vi 6 :: st) M Q := w_bipush mC_180 d180_13 (by decide)
theorem d180_15 : decode cX12_apart 15 = .ok (.irem, 1) := by decide +kernel
theorem k180_15 {d : Nat} {l0 l1 : Option PV} {st : List PV} {M : Mem} {Q : Option PV → Mem → Prop} {x y : Int32} (h : y ≠ 0) : WP d 180 15 [l0, l1] (vi y :: vi x :: st) M Q = WP d 180 16 [l0, l1] (vi (x % y) :: st) M Q := w_rem mC_180 d180_15 h
theorem d180_16 : decode cX12_apart 16 = .ok (.iload_n 1, 1) := by decide +kernel
theorem k180_16 {d : Nat} {x : Int32} {l0 : Option PV} {st : List PV} {M : Mem} {Q : Option PV → Mem → Prop} : WP d 180 16 [l0, some (vi x)] (st) M Q = WP d 180 17 [l0, some (vi x)] (vi x :: st) M Q := w1 mC_180 d180_16 rfl rfl
theorem d180_17 : decode cX12_apart 17 = .ok (.bipush 6, 2) := by decide +kernel
theorem k180_17 {d : Nat} {l0 l1 : Option PV} {st : List PV} {M : Mem} {Q : Option PV → Mem → Prop} : WP d 180 17 [l0, l1] (st) M Q = WP d 180 19 [l0, l1] (vi 6 :: st) M Q := w_bipush mC_180 d180_17 (by decide)
theorem d180_19 : decode cX12_apart 19 = .ok (.irem, 1) := by decide +kernel
theorem k180_19 {d : Nat} {l0 l1 : Option PV} {st : List PV} {M : Mem} {Q : Option PV → Mem → Prop} {x y : Int32} (h : y ≠ 0) : WP d 180 19 [l0, l1] (vi y :: vi x :: st) M Q = WP d 180 20 [l0, l1] (vi (x % y) :: st) M Q := w_rem mC_180 d180_19 h
theorem d180_20 : decode cX12_apart 20 = .ok (.isub, 1) := by decide +kernel
theorem k180_20 {d : Nat} {l0 l1 : Option PV} {st : List PV} {M : Mem} {Q : Option PV → Mem → Prop} {x y : Int32} : WP d 180 20 [l0, l1] (vi y :: vi x :: st) M Q = WP d 180 21 [l0, l1] (vi (x - y) :: st) M Q := w1 mC_180 d180_20 rfl rfl
theorem d180_21 : decode cX12_apart 21 = .ok (.invokestatic 223, 3) := by decide +kernel
theorem k180_21 {d : Nat} {l0 l1 : Option PV} {st : List PV} {M : Mem} {Q : Option PV → Mem → Prop} {x : Int32} (hl : szL st ≤ 8) : WP d 180 21 [l0, l1] (vi x :: st) M Q = WP d 180 24 [l0, l1] (vi (if 0 ≤ x then x else 0 - x) :: st) M Q := w_abs mC_180 d180_21 rfl rfl rfl hl
theorem d180_24 : decode cX12_apart 24 = .ok (.iadd, 1) := by decide +kernel
theorem k180_24 {d : Nat} {l0 l1 : Option PV} {st : List PV} {M : Mem} {Q : Option PV → Mem → Prop} {x y : Int32} : WP d 180 24 [l0, l1] (vi y :: vi x :: st) M Q = WP d 180 25 [l0, l1] (vi (x + y) :: st) M Q := w1 mC_180 d180_24 rfl rfl
theorem d180_25 : decode cX12_apart 25 = .ok (.ireturn, 1) := by decide +kernel
theorem k180_25 {d : Nat} {l0 l1 : Option PV} {M : Mem} {Q : Option PV → Mem → Prop} {x : Int32} : WP d 180 25 [l0, l1] ([vi x]) M Q = Q (some (vi x)) M := w_iret mC_180 d180_25 rfl
theorem d181_0 : decode cX12_owes 0 = .ok (.aload_n 0, 1) := by decide +kernel
theorem k181_0 {d x : Nat} {l1 : Option PV} {st : List PV} {M : Mem} {Q : Option PV → Mem → Prop} : WP d 181 0 [some (vr x), l1] (st) M Q = WP d 181 1 [some (vr x), l1] (vr x :: st) M Q := w1 mC_181 d181_0 rfl rfl
theorem d181_1 : decode cX12_owes 1 = .ok (.getfield 9, 3) := by decide +kernel
theorem k181_1 {d : Nat} {l0 l1 : Option PV} {st : List PV} {M : Mem} {Q : Option PV → Mem → Prop} {r : Nat} (hk : mK M r = 12) : WP d 181 1 [l0, l1] (vr r :: st) M Q = WP d 181 4 [l0, l1] (vr (mR M r 2) :: st) M Q := w_getr mC_181 d181_1 fE_12_9 rfl (by rw [hk]; rfl)
theorem d181_4 : decode cX12_owes 4 = .ok (.bipush 32, 2) := by decide +kernel
theorem k181_4 {d : Nat} {l0 l1 : Option PV} {st : List PV} {M : Mem} {Q : Option PV → Mem → Prop} : WP d 181 4 [l0, l1] (st) M Q = WP d 181 6 [l0, l1] (vi 32 :: st) M Q := w_bipush mC_181 d181_4 (by decide)
theorem d181_6 : decode cX12_owes 6 = .ok (.iload_n 1, 1) := by decide +kernel
theorem k181_6 {d : Nat} {x : Int32} {l0 : Option PV} {st : List PV} {M : Mem} {Q : Option PV → Mem → Prop} : WP d 181 6 [l0, some (vi x)] (st) M Q = WP d 181 7 [l0, some (vi x)] (vi x :: st) M Q := w1 mC_181 d181_6 rfl rfl
theorem d181_7 : decode cX12_owes 7 = .ok (.iadd, 1) := by decide +kernel
theorem k181_7 {d : Nat} {l0 l1 : Option PV} {st : List PV} {M : Mem} {Q : Option PV → Mem → Prop} {x y : Int32} : WP d 181 7 [l0, l1] (vi y :: vi x :: st) M Q = WP d 181 8 [l0, l1] (vi (x + y) :: st) M Q := w1 mC_181 d181_7 rfl rfl
theorem d181_8 : decode cX12_owes 8 = .ok (.iaload, 1) := by decide +kernel
theorem k181_8 {d : Nat} {l0 l1 : Option PV} {st : List PV} {M : Mem} {Q : Option PV → Mem → Prop} {r : Nat} {j : Int32} (hk : mK M r = 13) (hj : inb j (mN M r)) (h1 : r ≠ 1) : WP d 181 8 [l0, l1] (vi j :: vr r :: st) M Q = WP d 181 9 [l0, l1] (vi (mI M r (ix j)) :: st) M Q := w_iald mC_181 d181_8 (by decide) hk hj h1
theorem d181_9 : decode cX12_owes 9 = .ok (.ireturn, 1) := by decide +kernel
theorem k181_9 {d : Nat} {l0 l1 : Option PV} {M : Mem} {Q : Option PV → Mem → Prop} {x : Int32} : WP d 181 9 [l0, l1] ([vi x]) M Q = Q (some (vi x)) M := w_iret mC_181 d181_9 rfl
theorem d182_0 : decode cX12_held 0 = .ok (.aload_n 0, 1) := by decide +kernel
theorem k182_0 {d x : Nat} {l1 : Option PV} {st : List PV} {M : Mem} {Q : Option PV → Mem → Prop} : WP d 182 0 [some (vr x), l1] (st) M Q = WP d 182 1 [some (vr x), l1] (vr x :: st) M Q := w1 mC_182 d182_0 rfl rfl
theorem d182_1 : decode cX12_held 1 = .ok (.getfield 9, 3) := by decide +kernel
theorem k182_1 {d : Nat} {l0 l1 : Option PV} {st : List PV} {M : Mem} {Q : Option PV → Mem → Prop} {r : Nat} (hk : mK M r = 12) : WP d 182 1 [l0, l1] (vr r :: st) M Q = WP d 182 4 [l0, l1] (vr (mR M r 2) :: st) M Q := w_getr mC_182 d182_1 fE_12_9 rfl (by rw [hk]; rfl)
theorem d182_4 : decode cX12_held 4 = .ok (.bipush 40, 2) := by decide +kernel
theorem k182_4 {d : Nat} {l0 l1 : Option PV} {st : List PV} {M : Mem} {Q : Option PV → Mem → Prop} : WP d 182 4 [l0, l1] (st) M Q = WP d 182 6 [l0, l1] (vi 40 :: st) M Q := w_bipush mC_182 d182_4 (by decide)
theorem d182_6 : decode cX12_held 6 = .ok (.iload_n 1, 1) := by decide +kernel
theorem k182_6 {d : Nat} {x : Int32} {l0 : Option PV} {st : List PV} {M : Mem} {Q : Option PV → Mem → Prop} : WP d 182 6 [l0, some (vi x)] (st) M Q = WP d 182 7 [l0, some (vi x)] (vi x :: st) M Q := w1 mC_182 d182_6 rfl rfl
theorem d182_7 : decode cX12_held 7 = .ok (.iadd, 1) := by decide +kernel
theorem k182_7 {d : Nat} {l0 l1 : Option PV} {st : List PV} {M : Mem} {Q : Option PV → Mem → Prop} {x y : Int32} : WP d 182 7 [l0, l1] (vi y :: vi x :: st) M Q = WP d 182 8 [l0, l1] (vi (x + y) :: st) M Q := w1 mC_182 d182_7 rfl rfl
theorem d182_8 : decode cX12_held 8 = .ok (.iaload, 1) := by decide +kernel
theorem k182_8 {d : Nat} {l0 l1 : Option PV} {st : List PV} {M : Mem} {Q : Option PV → Mem → Prop} {r : Nat} {j : Int32} (hk : mK M r = 13) (hj : inb j (mN M r)) (h1 : r ≠ 1) : WP d 182 8 [l0, l1] (vi j :: vr r :: st) M Q = WP d 182 9 [l0, l1] (vi (mI M r (ix j)) :: st) M Q := w_iald mC_182 d182_8 (by decide) hk hj h1
theorem d182_9 : decode cX12_held 9 = .ok (.ireturn, 1) := by decide +kernel
theorem k182_9 {d : Nat} {l0 l1 : Option PV} {M : Mem} {Q : Option PV → Mem → Prop} {x : Int32} : WP d 182 9 [l0, l1] ([vi x]) M Q = Q (some (vi x)) M := w_iret mC_182 d182_9 rfl
theorem d183_0 : decode cX12_byLaw 0 = .ok (.aload_n 0, 1) := by decide +kernel
theorem k183_0 {d x : Nat} {l1 l2 : Option PV} {st : List PV} {M : Mem} {Q : Option PV → Mem → Prop} : WP d 183 0 [some (vr x), l1, l2] (st) M Q = WP d 183 1 [some (vr x), l1, l2] (vr x :: st) M Q := w1 mC_183 d183_0 rfl rfl
theorem d183_1 : decode cX12_byLaw 1 = .ok (.getfield 48, 3) := by decide +kernel
theorem k183_1 {d : Nat} {l0 l1 l2 : Option PV} {st : List PV} {M : Mem} {Q : Option PV → Mem → Prop} {r : Nat} (hk : mK M r = 12) : WP d 183 1 [l0, l1, l2] (vr r :: st) M Q = WP d 183 4 [l0, l1, l2] (vr (mR M r 21) :: st) M Q := w_getr mC_183 d183_1 fE_12_48 rfl (by rw [hk]; rfl)
theorem d183_4 : decode cX12_byLaw 4 = .ok (.iconst 0, 1) := by decide +kernel
theorem k183_4 {d : Nat} {l0 l1 l2 : Option PV} {st : List PV} {M : Mem} {Q : Option PV → Mem → Prop} : WP d 183 4 [l0, l1, l2] (st) M Q = WP d 183 5 [l0, l1, l2] (vi 0 :: st) M Q := w_iconst mC_183 d183_4 (by decide)
theorem d183_5 : decode cX12_byLaw 5 = .ok (.aload_n 0, 1) := by decide +kernel
theorem k183_5 {d x : Nat} {l1 l2 : Option PV} {st : List PV} {M : Mem} {Q : Option PV → Mem → Prop} : WP d 183 5 [some (vr x), l1, l2] (st) M Q = WP d 183 6 [some (vr x), l1, l2] (vr x :: st) M Q := w1 mC_183 d183_5 rfl rfl
theorem d183_6 : decode cX12_byLaw 6 = .ok (.iload_n 1, 1) := by decide +kernel
theorem k183_6 {d : Nat} {x : Int32} {l0 l2 : Option PV} {st : List PV} {M : Mem} {Q : Option PV → Mem → Prop} : WP d 183 6 [l0, some (vi x), l2] (st) M Q = WP d 183 7 [l0, some (vi x), l2] (vi x :: st) M Q := w1 mC_183 d183_6 rfl rfl
theorem d183_7 : decode cX12_byLaw 7 = .ok (.invokevirtual 228, 3) := by decide +kernel
theorem k183_7 {d : Nat} {l0 l1 l2 : Option PV} {st : List PV} {M : Mem} {Q : Option PV → Mem → Prop} {a0 : Int32} {r : Nat} (hl : szL st ≤ 8) (hk : mK M r = 12) : WP (d + 1) 183 7 [l0, l1, l2] (vi a0 :: vr r :: st) M Q = WP d 182 0 [some (vr r), some (vi a0)] [] M (fun v M' => WP (d + 1) 183 10 [l0, l1, l2] (psh v st) M' Q) := w_callV mC_183 d183_7 (ci := 12) rfl rfl rfl (Nat.le_of_ble_eq_true rfl) (by decide) rfl hl hk
theorem d183_10 : decode cX12_byLaw 10 = .ok (.iastore, 1) := by decide +kernel
theorem k183_10 {d : Nat} {l0 l1 l2 : Option PV} {st : List PV} {M : Mem} {Q : Option PV → Mem → Prop} {r : Nat} {j x : Int32} (hk : mK M r = 13) (hj : inb j (mN M r)) (h1 : r ≠ 1) : WP d 183 10 [l0, l1, l2] (vi x :: vi j :: vr r :: st) M Q = WP d 183 11 [l0, l1, l2] (st) (sI M r (ix j) x) Q := w_iast mC_183 d183_10 hk hj h1
theorem d183_11 : decode cX12_byLaw 11 = .ok (.aload_n 0, 1) := by decide +kernel
theorem k183_11 {d x : Nat} {l1 l2 : Option PV} {st : List PV} {M : Mem} {Q : Option PV → Mem → Prop} : WP d 183 11 [some (vr x), l1, l2] (st) M Q = WP d 183 12 [some (vr x), l1, l2] (vr x :: st) M Q := w1 mC_183 d183_11 rfl rfl
theorem d183_12 : decode cX12_byLaw 12 = .ok (.getfield 48, 3) := by decide +kernel
theorem k183_12 {d : Nat} {l0 l1 l2 : Option PV} {st : List PV} {M : Mem} {Q : Option PV → Mem → Prop} {r : Nat} (hk : mK M r = 12) : WP d 183 12 [l0, l1, l2] (vr r :: st) M Q = WP d 183 15 [l0, l1, l2] (vr (mR M r 21) :: st) M Q := w_getr mC_183 d183_12 fE_12_48 rfl (by rw [hk]; rfl)
theorem d183_15 : decode cX12_byLaw 15 = .ok (.iconst 1, 1) := by decide +kernel
theorem k183_15 {d : Nat} {l0 l1 l2 : Option PV} {st : List PV} {M : Mem} {Q : Option PV → Mem → Prop} : WP d 183 15 [l0, l1, l2] (st) M Q = WP d 183 16 [l0, l1, l2] (vi 1 :: st) M Q := w_iconst mC_183 d183_15 (by decide)
theorem d183_16 : decode cX12_byLaw 16 = .ok (.aload_n 0, 1) := by decide +kernel
theorem k183_16 {d x : Nat} {l1 l2 : Option PV} {st : List PV} {M : Mem} {Q : Option PV → Mem → Prop} : WP d 183 16 [some (vr x), l1, l2] (st) M Q = WP d 183 17 [some (vr x), l1, l2] (vr x :: st) M Q := w1 mC_183 d183_16 rfl rfl
theorem d183_17 : decode cX12_byLaw 17 = .ok (.getfield 9, 3) := by decide +kernel
theorem k183_17 {d : Nat} {l0 l1 l2 : Option PV} {st : List PV} {M : Mem} {Q : Option PV → Mem → Prop} {r : Nat} (hk : mK M r = 12) : WP d 183 17 [l0, l1, l2] (vr r :: st) M Q = WP d 183 20 [l0, l1, l2] (vr (mR M r 2) :: st) M Q := w_getr mC_183 d183_17 fE_12_9 rfl (by rw [hk]; rfl)
theorem d183_20 : decode cX12_byLaw 20 = .ok (.bipush 24, 2) := by decide +kernel
theorem k183_20 {d : Nat} {l0 l1 l2 : Option PV} {st : List PV} {M : Mem} {Q : Option PV → Mem → Prop} : WP d 183 20 [l0, l1, l2] (st) M Q = WP d 183 22 [l0, l1, l2] (vi 24 :: st) M Q := w_bipush mC_183 d183_20 (by decide)
theorem d183_22 : decode cX12_byLaw 22 = .ok (.iload_n 1, 1) := by decide +kernel
theorem k183_22 {d : Nat} {x : Int32} {l0 l2 : Option PV} {st : List PV} {M : Mem} {Q : Option PV → Mem → Prop} : WP d 183 22 [l0, some (vi x), l2] (st) M Q = WP d 183 23 [l0, some (vi x), l2] (vi x :: st) M Q := w1 mC_183 d183_22 rfl rfl
theorem d183_23 : decode cX12_byLaw 23 = .ok (.iadd, 1) := by decide +kernel
theorem k183_23 {d : Nat} {l0 l1 l2 : Option PV} {st : List PV} {M : Mem} {Q : Option PV → Mem → Prop} {x y : Int32} : WP d 183 23 [l0, l1, l2] (vi y :: vi x :: st) M Q = WP d 183 24 [l0, l1, l2] (vi (x + y) :: st) M Q := w1 mC_183 d183_23 rfl rfl
theorem d183_24 : decode cX12_byLaw 24 = .ok (.iaload, 1) := by decide +kernel
theorem k183_24 {d : Nat} {l0 l1 l2 : Option PV} {st : List PV} {M : Mem} {Q : Option PV → Mem → Prop} {r : Nat} {j : Int32} (hk : mK M r = 13) (hj : inb j (mN M r)) (h1 : r ≠ 1) : WP d 183 24 [l0, l1, l2] (vi j :: vr r :: st) M Q = WP d 183 25 [l0, l1, l2] (vi (mI M r (ix j)) :: st) M Q := w_iald mC_183 d183_24 (by decide) hk hj h1
theorem d183_25 : decode cX12_byLaw 25 = .ok (.iastore, 1) := by decide +kernel
theorem k183_25 {d : Nat} {l0 l1 l2 : Option PV} {st : List PV} {M : Mem} {Q : Option PV → Mem → Prop} {r : Nat} {j x : Int32} (hk : mK M r = 13) (hj : inb j (mN M r)) (h1 : r ≠ 1) : WP d 183 25 [l0, l1, l2] (vi x :: vi j :: vr r :: st) M Q = WP d 183 26 [l0, l1, l2] (st) (sI M r (ix j) x) Q := w_iast mC_183 d183_25 hk hj h1
theorem d183_26 : decode cX12_byLaw 26 = .ok (.aload_n 0, 1) := by decide +kernel
theorem k183_26 {d x : Nat} {l1 l2 : Option PV} {st : List PV} {M : Mem} {Q : Option PV → Mem → Prop} : WP d 183 26 [some (vr x), l1, l2] (st) M Q = WP d 183 27 [some (vr x), l1, l2] (vr x :: st) M Q := w1 mC_183 d183_26 rfl rfl
theorem d183_27 : decode cX12_byLaw 27 = .ok (.getfield 48, 3) := by decide +kernel
theorem k183_27 {d : Nat} {l0 l1 l2 : Option PV} {st : List PV} {M : Mem} {Q : Option PV → Mem → Prop} {r : Nat} (hk : mK M r = 12) : WP d 183 27 [l0, l1, l2] (vr r :: st) M Q = WP d 183 30 [l0, l1, l2] (vr (mR M r 21) :: st) M Q := w_getr mC_183 d183_27 fE_12_48 rfl (by rw [hk]; rfl)
theorem d183_30 : decode cX12_byLaw 30 = .ok (.iconst 2, 1) := by decide +kernel
theorem k183_30 {d : Nat} {l0 l1 l2 : Option PV} {st : List PV} {M : Mem} {Q : Option PV → Mem → Prop} : WP d 183 30 [l0, l1, l2] (st) M Q = WP d 183 31 [l0, l1, l2] (vi 2 :: st) M Q := w_iconst mC_183 d183_30 (by decide)
theorem d183_31 : decode cX12_byLaw 31 = .ok (.aload_n 0, 1) := by decide +kernel
theorem k183_31 {d x : Nat} {l1 l2 : Option PV} {st : List PV} {M : Mem} {Q : Option PV → Mem → Prop} : WP d 183 31 [some (vr x), l1, l2] (st) M Q = WP d 183 32 [some (vr x), l1, l2] (vr x :: st) M Q := w1 mC_183 d183_31 rfl rfl
theorem d183_32 : decode cX12_byLaw 32 = .ok (.getfield 9, 3) := by decide +kernel
theorem k183_32 {d : Nat} {l0 l1 l2 : Option PV} {st : List PV} {M : Mem} {Q : Option PV → Mem → Prop} {r : Nat} (hk : mK M r = 12) : WP d 183 32 [l0, l1, l2] (vr r :: st) M Q = WP d 183 35 [l0, l1, l2] (vr (mR M r 2) :: st) M Q := w_getr mC_183 d183_32 fE_12_9 rfl (by rw [hk]; rfl)
theorem d183_35 : decode cX12_byLaw 35 = .ok (.bipush 16, 2) := by decide +kernel
theorem k183_35 {d : Nat} {l0 l1 l2 : Option PV} {st : List PV} {M : Mem} {Q : Option PV → Mem → Prop} : WP d 183 35 [l0, l1, l2] (st) M Q = WP d 183 37 [l0, l1, l2] (vi 16 :: st) M Q := w_bipush mC_183 d183_35 (by decide)
theorem d183_37 : decode cX12_byLaw 37 = .ok (.iload_n 1, 1) := by decide +kernel
theorem k183_37 {d : Nat} {x : Int32} {l0 l2 : Option PV} {st : List PV} {M : Mem} {Q : Option PV → Mem → Prop} : WP d 183 37 [l0, some (vi x), l2] (st) M Q = WP d 183 38 [l0, some (vi x), l2] (vi x :: st) M Q := w1 mC_183 d183_37 rfl rfl
theorem d183_38 : decode cX12_byLaw 38 = .ok (.iadd, 1) := by decide +kernel
theorem k183_38 {d : Nat} {l0 l1 l2 : Option PV} {st : List PV} {M : Mem} {Q : Option PV → Mem → Prop} {x y : Int32} : WP d 183 38 [l0, l1, l2] (vi y :: vi x :: st) M Q = WP d 183 39 [l0, l1, l2] (vi (x + y) :: st) M Q := w1 mC_183 d183_38 rfl rfl
theorem d183_39 : decode cX12_byLaw 39 = .ok (.iaload, 1) := by decide +kernel
theorem k183_39 {d : Nat} {l0 l1 l2 : Option PV} {st : List PV} {M : Mem} {Q : Option PV → Mem → Prop} {r : Nat} {j : Int32} (hk : mK M r = 13) (hj : inb j (mN M r)) (h1 : r ≠ 1) : WP d 183 39 [l0, l1, l2] (vi j :: vr r :: st) M Q = WP d 183 40 [l0, l1, l2] (vi (mI M r (ix j)) :: st) M Q := w_iald mC_183 d183_39 (by decide) hk hj h1
theorem d183_40 : decode cX12_byLaw 40 = .ok (.aload_n 0, 1) := by decide +kernel
theorem k183_40 {d x : Nat} {l1 l2 : Option PV} {st : List PV} {M : Mem} {Q : Option PV → Mem → Prop} : WP d 183 40 [some (vr x), l1, l2] (st) M Q = WP d 183 41 [some (vr x), l1, l2] (vr x :: st) M Q := w1 mC_183 d183_40 rfl rfl
theorem d183_41 : decode cX12_byLaw 41 = .ok (.getfield 9, 3) := by decide +kernel
theorem k183_41 {d : Nat} {l0 l1 l2 : Option PV} {st : List PV} {M : Mem} {Q : Option PV → Mem → Prop} {r : Nat} (hk : mK M r = 12) : WP d 183 41 [l0, l1, l2] (vr r :: st) M Q = WP d 183 44 [l0, l1, l2] (vr (mR M r 2) :: st) M Q := w_getr mC_183 d183_41 fE_12_9 rfl (by rw [hk]; rfl)
theorem d183_44 : decode cX12_byLaw 44 = .ok (.aload_n 0, 1) := by decide +kernel
theorem k183_44 {d x : Nat} {l1 l2 : Option PV} {st : List PV} {M : Mem} {Q : Option PV → Mem → Prop} : WP d 183 44 [some (vr x), l1, l2] (st) M Q = WP d 183 45 [some (vr x), l1, l2] (vr x :: st) M Q := w1 mC_183 d183_44 rfl rfl
theorem d183_45 : decode cX12_byLaw 45 = .ok (.iload_n 1, 1) := by decide +kernel
theorem k183_45 {d : Nat} {x : Int32} {l0 l2 : Option PV} {st : List PV} {M : Mem} {Q : Option PV → Mem → Prop} : WP d 183 45 [l0, some (vi x), l2] (st) M Q = WP d 183 46 [l0, some (vi x), l2] (vi x :: st) M Q := w1 mC_183 d183_45 rfl rfl
theorem d183_46 : decode cX12_byLaw 46 = .ok (.invokevirtual 231, 3) := by decide +kernel
theorem k183_46 {d : Nat} {l0 l1 l2 : Option PV} {st : List PV} {M : Mem} {Q : Option PV → Mem → Prop} {a0 : Int32} {r : Nat} (hl : szL st ≤ 8) (hk : mK M r = 12) : WP (d + 1) 183 46 [l0, l1, l2] (vi a0 :: vr r :: st) M Q = WP d 181 0 [some (vr r), some (vi a0)] [] M (fun v M' => WP (d + 1) 183 49 [l0, l1, l2] (psh v st) M' Q) := w_callV mC_183 d183_46 (ci := 12) rfl rfl rfl (Nat.le_of_ble_eq_true rfl) (by decide) rfl hl hk
theorem d183_49 : decode cX12_byLaw 49 = .ok (.iaload, 1) := by decide +kernel
theorem k183_49 {d : Nat} {l0 l1 l2 : Option PV} {st : List PV} {M : Mem} {Q : Option PV → Mem → Prop} {r : Nat} {j : Int32} (hk : mK M r = 13) (hj : inb j (mN M r)) (h1 : r ≠ 1) : WP d 183 49 [l0, l1, l2] (vi j :: vr r :: st) M Q = WP d 183 50 [l0, l1, l2] (vi (mI M r (ix j)) :: st) M Q := w_iald mC_183 d183_49 (by decide) hk hj h1
theorem d183_50 : decode cX12_byLaw 50 = .ok (.invokestatic 234, 3) := by decide +kernel
theorem k183_50 {d : Nat} {l0 l1 l2 : Option PV} {st : List PV} {M : Mem} {Q : Option PV → Mem → Prop} {a0 a1 : Int32} (hl : szL st ≤ 8) : WP (d + 1) 183 50 [l0, l1, l2] (vi a1 :: vi a0 :: st) M Q = WP d 180 0 [some (vi a0), some (vi a1)] [] M (fun v M' => WP (d + 1) 183 53 [l0, l1, l2] (psh v st) M' Q) := w_callS mC_183 d183_50 rfl rfl (Nat.le_of_ble_eq_true rfl) (by decide) rfl hl
theorem d183_53 : decode cX12_byLaw 53 = .ok (.iastore, 1) := by decide +kernel
theorem k183_53 {d : Nat} {l0 l1 l2 : Option PV} {st : List PV} {M : Mem} {Q : Option PV → Mem → Prop} {r : Nat} {j x : Int32} (hk : mK M r = 13) (hj : inb j (mN M r)) (h1 : r ≠ 1) : WP d 183 53 [l0, l1, l2] (vi x :: vi j :: vr r :: st) M Q = WP d 183 54 [l0, l1, l2] (st) (sI M r (ix j) x) Q := w_iast mC_183 d183_53 hk hj h1
theorem d183_54 : decode cX12_byLaw 54 = .ok (.aload_n 0, 1) := by decide +kernel
theorem k183_54 {d x : Nat} {l1 l2 : Option PV} {st : List PV} {M : Mem} {Q : Option PV → Mem → Prop} : WP d 183 54 [some (vr x), l1, l2] (st) M Q = WP d 183 55 [some (vr x), l1, l2] (vr x :: st) M Q := w1 mC_183 d183_54 rfl rfl
theorem d183_55 : decode cX12_byLaw 55 = .ok (.getfield 48, 3) := by decide +kernel
theorem k183_55 {d : Nat} {l0 l1 l2 : Option PV} {st : List PV} {M : Mem} {Q : Option PV → Mem → Prop} {r : Nat} (hk : mK M r = 12) : WP d 183 55 [l0, l1, l2] (vr r :: st) M Q = WP d 183 58 [l0, l1, l2] (vr (mR M r 21) :: st) M Q := w_getr mC_183 d183_55 fE_12_48 rfl (by rw [hk]; rfl)
theorem d183_58 : decode cX12_byLaw 58 = .ok (.iconst 3, 1) := by decide +kernel
theorem k183_58 {d : Nat} {l0 l1 l2 : Option PV} {st : List PV} {M : Mem} {Q : Option PV → Mem → Prop} : WP d 183 58 [l0, l1, l2] (st) M Q = WP d 183 59 [l0, l1, l2] (vi 3 :: st) M Q := w_iconst mC_183 d183_58 (by decide)
theorem d183_59 : decode cX12_byLaw 59 = .ok (.aload_n 0, 1) := by decide +kernel
theorem k183_59 {d x : Nat} {l1 l2 : Option PV} {st : List PV} {M : Mem} {Q : Option PV → Mem → Prop} : WP d 183 59 [some (vr x), l1, l2] (st) M Q = WP d 183 60 [some (vr x), l1, l2] (vr x :: st) M Q := w1 mC_183 d183_59 rfl rfl
theorem d183_60 : decode cX12_byLaw 60 = .ok (.getfield 15, 3) := by decide +kernel
theorem k183_60 {d : Nat} {l0 l1 l2 : Option PV} {st : List PV} {M : Mem} {Q : Option PV → Mem → Prop} {r : Nat} (hk : mK M r = 12) : WP d 183 60 [l0, l1, l2] (vr r :: st) M Q = WP d 183 63 [l0, l1, l2] (vr (mR M r 3) :: st) M Q := w_getr mC_183 d183_60 fE_12_15 rfl (by rw [hk]; rfl)
theorem d183_63 : decode cX12_byLaw 63 = .ok (.iconst 1, 1) := by decide +kernel
theorem k183_63 {d : Nat} {l0 l1 l2 : Option PV} {st : List PV} {M : Mem} {Q : Option PV → Mem → Prop} : WP d 183 63 [l0, l1, l2] (st) M Q = WP d 183 64 [l0, l1, l2] (vi 1 :: st) M Q := w_iconst mC_183 d183_63 (by decide)
theorem d183_64 : decode cX12_byLaw 64 = .ok (.iaload, 1) := by decide +kernel
theorem k183_64 {d : Nat} {l0 l1 l2 : Option PV} {st : List PV} {M : Mem} {Q : Option PV → Mem → Prop} {r : Nat} {j : Int32} (hk : mK M r = 13) (hj : inb j (mN M r)) (h1 : r ≠ 1) : WP d 183 64 [l0, l1, l2] (vi j :: vr r :: st) M Q = WP d 183 65 [l0, l1, l2] (vi (mI M r (ix j)) :: st) M Q := w_iald mC_183 d183_64 (by decide) hk hj h1
theorem d183_65 : decode cX12_byLaw 65 = .ok (.iastore, 1) := by decide +kernel
theorem k183_65 {d : Nat} {l0 l1 l2 : Option PV} {st : List PV} {M : Mem} {Q : Option PV → Mem → Prop} {r : Nat} {j x : Int32} (hk : mK M r = 13) (hj : inb j (mN M r)) (h1 : r ≠ 1) : WP d 183 65 [l0, l1, l2] (vi x :: vi j :: vr r :: st) M Q = WP d 183 66 [l0, l1, l2] (st) (sI M r (ix j) x) Q := w_iast mC_183 d183_65 hk hj h1
theorem d183_66 : decode cX12_byLaw 66 = .ok (.aload_n 0, 1) := by decide +kernel
theorem k183_66 {d x : Nat} {l1 l2 : Option PV} {st : List PV} {M : Mem} {Q : Option PV → Mem → Prop} : WP d 183 66 [some (vr x), l1, l2] (st) M Q = WP d 183 67 [some (vr x), l1, l2] (vr x :: st) M Q := w1 mC_183 d183_66 rfl rfl
theorem d183_67 : decode cX12_byLaw 67 = .ok (.getfield 48, 3) := by decide +kernel
theorem k183_67 {d : Nat} {l0 l1 l2 : Option PV} {st : List PV} {M : Mem} {Q : Option PV → Mem → Prop} {r : Nat} (hk : mK M r = 12) : WP d 183 67 [l0, l1, l2] (vr r :: st) M Q = WP d 183 70 [l0, l1, l2] (vr (mR M r 21) :: st) M Q := w_getr mC_183 d183_67 fE_12_48 rfl (by rw [hk]; rfl)
theorem d183_70 : decode cX12_byLaw 70 = .ok (.iconst 4, 1) := by decide +kernel
theorem k183_70 {d : Nat} {l0 l1 l2 : Option PV} {st : List PV} {M : Mem} {Q : Option PV → Mem → Prop} : WP d 183 70 [l0, l1, l2] (st) M Q = WP d 183 71 [l0, l1, l2] (vi 4 :: st) M Q := w_iconst mC_183 d183_70 (by decide)
theorem d183_71 : decode cX12_byLaw 71 = .ok (.aload_n 0, 1) := by decide +kernel
theorem k183_71 {d x : Nat} {l1 l2 : Option PV} {st : List PV} {M : Mem} {Q : Option PV → Mem → Prop} : WP d 183 71 [some (vr x), l1, l2] (st) M Q = WP d 183 72 [some (vr x), l1, l2] (vr x :: st) M Q := w1 mC_183 d183_71 rfl rfl
theorem d183_72 : decode cX12_byLaw 72 = .ok (.iload_n 1, 1) := by decide +kernel
theorem k183_72 {d : Nat} {x : Int32} {l0 l2 : Option PV} {st : List PV} {M : Mem} {Q : Option PV → Mem → Prop} : WP d 183 72 [l0, some (vi x), l2] (st) M Q = WP d 183 73 [l0, some (vi x), l2] (vi x :: st) M Q := w1 mC_183 d183_72 rfl rfl
theorem d183_73 : decode cX12_byLaw 73 = .ok (.invokevirtual 231, 3) := by decide +kernel
theorem k183_73 {d : Nat} {l0 l1 l2 : Option PV} {st : List PV} {M : Mem} {Q : Option PV → Mem → Prop} {a0 : Int32} {r : Nat} (hl : szL st ≤ 8) (hk : mK M r = 12) : WP (d + 1) 183 73 [l0, l1, l2] (vi a0 :: vr r :: st) M Q = WP d 181 0 [some (vr r), some (vi a0)] [] M (fun v M' => WP (d + 1) 183 76 [l0, l1, l2] (psh v st) M' Q) := w_callV mC_183 d183_73 (ci := 12) rfl rfl rfl (Nat.le_of_ble_eq_true rfl) (by decide) rfl hl hk
theorem d183_76 : decode cX12_byLaw 76 = .ok (.iastore, 1) := by decide +kernel
theorem k183_76 {d : Nat} {l0 l1 l2 : Option PV} {st : List PV} {M : Mem} {Q : Option PV → Mem → Prop} {r : Nat} {j x : Int32} (hk : mK M r = 13) (hj : inb j (mN M r)) (h1 : r ≠ 1) : WP d 183 76 [l0, l1, l2] (vi x :: vi j :: vr r :: st) M Q = WP d 183 77 [l0, l1, l2] (st) (sI M r (ix j) x) Q := w_iast mC_183 d183_76 hk hj h1
theorem d183_77 : decode cX12_byLaw 77 = .ok (.aload_n 0, 1) := by decide +kernel
theorem k183_77 {d x : Nat} {l1 l2 : Option PV} {st : List PV} {M : Mem} {Q : Option PV → Mem → Prop} : WP d 183 77 [some (vr x), l1, l2] (st) M Q = WP d 183 78 [some (vr x), l1, l2] (vr x :: st) M Q := w1 mC_183 d183_77 rfl rfl
theorem d183_78 : decode cX12_byLaw 78 = .ok (.getfield 48, 3) := by decide +kernel
theorem k183_78 {d : Nat} {l0 l1 l2 : Option PV} {st : List PV} {M : Mem} {Q : Option PV → Mem → Prop} {r : Nat} (hk : mK M r = 12) : WP d 183 78 [l0, l1, l2] (vr r :: st) M Q = WP d 183 81 [l0, l1, l2] (vr (mR M r 21) :: st) M Q := w_getr mC_183 d183_78 fE_12_48 rfl (by rw [hk]; rfl)
theorem d183_81 : decode cX12_byLaw 81 = .ok (.iconst 5, 1) := by decide +kernel
theorem k183_81 {d : Nat} {l0 l1 l2 : Option PV} {st : List PV} {M : Mem} {Q : Option PV → Mem → Prop} : WP d 183 81 [l0, l1, l2] (st) M Q = WP d 183 82 [l0, l1, l2] (vi 5 :: st) M Q := w_iconst mC_183 d183_81 (by decide)
theorem d183_82 : decode cX12_byLaw 82 = .ok (.iload_n 1, 1) := by decide +kernel
theorem k183_82 {d : Nat} {x : Int32} {l0 l2 : Option PV} {st : List PV} {M : Mem} {Q : Option PV → Mem → Prop} : WP d 183 82 [l0, some (vi x), l2] (st) M Q = WP d 183 83 [l0, some (vi x), l2] (vi x :: st) M Q := w1 mC_183 d183_82 rfl rfl
theorem d183_83 : decode cX12_byLaw 83 = .ok (.iastore, 1) := by decide +kernel
theorem k183_83 {d : Nat} {l0 l1 l2 : Option PV} {st : List PV} {M : Mem} {Q : Option PV → Mem → Prop} {r : Nat} {j x : Int32} (hk : mK M r = 13) (hj : inb j (mN M r)) (h1 : r ≠ 1) : WP d 183 83 [l0, l1, l2] (vi x :: vi j :: vr r :: st) M Q = WP d 183 84 [l0, l1, l2] (st) (sI M r (ix j) x) Q := w_iast mC_183 d183_83 hk hj h1
theorem d183_84 : decode cX12_byLaw 84 = .ok (.iconst 0, 1) := by decide +kernel
theorem k183_84 {d : Nat} {l0 l1 l2 : Option PV} {st : List PV} {M : Mem} {Q : Option PV → Mem → Prop} : WP d 183 84 [l0, l1, l2] (st) M Q = WP d 183 85 [l0, l1, l2] (vi 0 :: st) M Q := w_iconst mC_183 d183_84 (by decide)
theorem d183_85 : decode cX12_byLaw 85 = .ok (.istore_n 2, 1) := by decide +kernel
theorem k183_85 {d : Nat} {l0 l1 l2 : Option PV} {st : List PV} {M : Mem} {Q : Option PV → Mem → Prop} {x : Int32} : WP d 183 85 [l0, l1, l2] (vi x :: st) M Q = WP d 183 86 [l0, l1, some (vi x)] (st) M Q := w1 mC_183 d183_85 rfl rfl
theorem d183_86 : decode cX12_byLaw 86 = .ok (.iload_n 2, 1) := by decide +kernel
theorem k183_86 {d : Nat} {x : Int32} {l0 l1 : Option PV} {st : List PV} {M : Mem} {Q : Option PV → Mem → Prop} : WP d 183 86 [l0, l1, some (vi x)] (st) M Q = WP d 183 87 [l0, l1, some (vi x)] (vi x :: st) M Q := w1 mC_183 d183_86 rfl rfl
theorem d183_87 : decode cX12_byLaw 87 = .ok (.aload_n 0, 1) := by decide +kernel
theorem k183_87 {d x : Nat} {l1 l2 : Option PV} {st : List PV} {M : Mem} {Q : Option PV → Mem → Prop} : WP d 183 87 [some (vr x), l1, l2] (st) M Q = WP d 183 88 [some (vr x), l1, l2] (vr x :: st) M Q := w1 mC_183 d183_87 rfl rfl
theorem d183_88 : decode cX12_byLaw 88 = .ok (.getfield 216, 3) := by decide +kernel
theorem k183_88 {d : Nat} {l0 l1 l2 : Option PV} {st : List PV} {M : Mem} {Q : Option PV → Mem → Prop} {r : Nat} (hk : mK M r = 12) : WP d 183 88 [l0, l1, l2] (vr r :: st) M Q = WP d 183 91 [l0, l1, l2] (vi (mI M r 7) :: st) M Q := w_get mC_183 d183_88 fE_12_216 rfl (by rw [hk]; rfl)
theorem d183_91 : decode cX12_byLaw 91 = .ok (.if_icmp .ge 63, 3) := by decide +kernel
theorem k183_91 {d : Nat} {l0 l1 l2 : Option PV} {st : List PV} {M : Mem} {Q : Option PV → Mem → Prop} {x y : Int32} : WP d 183 91 [l0, l1, l2] (vi y :: vi x :: st) M Q = (if y ≤ x then WP d 183 154 [l0, l1, l2] (st) M Q else WP d 183 94 [l0, l1, l2] (st) M Q) := w_ic_ge mC_183 d183_91 (by decide)
theorem d183_94 : decode cX12_byLaw 94 = .ok (.aload_n 0, 1) := by decide +kernel
theorem k183_94 {d x : Nat} {l1 l2 : Option PV} {st : List PV} {M : Mem} {Q : Option PV → Mem → Prop} : WP d 183 94 [some (vr x), l1, l2] (st) M Q = WP d 183 95 [some (vr x), l1, l2] (vr x :: st) M Q := w1 mC_183 d183_94 rfl rfl
theorem d183_95 : decode cX12_byLaw 95 = .ok (.getfield 24, 3) := by decide +kernel
theorem k183_95 {d : Nat} {l0 l1 l2 : Option PV} {st : List PV} {M : Mem} {Q : Option PV → Mem → Prop} {r : Nat} (hk : mK M r = 12) : WP d 183 95 [l0, l1, l2] (vr r :: st) M Q = WP d 183 98 [l0, l1, l2] (vr (mR M r 9) :: st) M Q := w_getr mC_183 d183_95 fE_12_24 rfl (by rw [hk]; rfl)
theorem d183_98 : decode cX12_byLaw 98 = .ok (.iload_n 2, 1) := by decide +kernel
theorem k183_98 {d : Nat} {x : Int32} {l0 l1 : Option PV} {st : List PV} {M : Mem} {Q : Option PV → Mem → Prop} : WP d 183 98 [l0, l1, some (vi x)] (st) M Q = WP d 183 99 [l0, l1, some (vi x)] (vi x :: st) M Q := w1 mC_183 d183_98 rfl rfl
theorem d183_99 : decode cX12_byLaw 99 = .ok (.iaload, 1) := by decide +kernel
theorem k183_99 {d : Nat} {l0 l1 l2 : Option PV} {st : List PV} {M : Mem} {Q : Option PV → Mem → Prop} {r : Nat} {j : Int32} (hk : mK M r = 13) (hj : inb j (mN M r)) (h1 : r ≠ 1) : WP d 183 99 [l0, l1, l2] (vi j :: vr r :: st) M Q = WP d 183 100 [l0, l1, l2] (vi (mI M r (ix j)) :: st) M Q := w_iald mC_183 d183_99 (by decide) hk hj h1
theorem d183_100 : decode cX12_byLaw 100 = .ok (.aload_n 0, 1) := by decide +kernel
theorem k183_100 {d x : Nat} {l1 l2 : Option PV} {st : List PV} {M : Mem} {Q : Option PV → Mem → Prop} : WP d 183 100 [some (vr x), l1, l2] (st) M Q = WP d 183 101 [some (vr x), l1, l2] (vr x :: st) M Q := w1 mC_183 d183_100 rfl rfl
theorem d183_101 : decode cX12_byLaw 101 = .ok (.getfield 21, 3) := by decide +kernel
theorem k183_101 {d : Nat} {l0 l1 l2 : Option PV} {st : List PV} {M : Mem} {Q : Option PV → Mem → Prop} {r : Nat} (hk : mK M r = 12) : WP d 183 101 [l0, l1, l2] (vr r :: st) M Q = WP d 183 104 [l0, l1, l2] (vr (mR M r 8) :: st) M Q := w_getr mC_183 d183_101 fE_12_21 rfl (by rw [hk]; rfl)
theorem d183_104 : decode cX12_byLaw 104 = .ok (.iload_n 2, 1) := by decide +kernel
theorem k183_104 {d : Nat} {x : Int32} {l0 l1 : Option PV} {st : List PV} {M : Mem} {Q : Option PV → Mem → Prop} : WP d 183 104 [l0, l1, some (vi x)] (st) M Q = WP d 183 105 [l0, l1, some (vi x)] (vi x :: st) M Q := w1 mC_183 d183_104 rfl rfl
theorem d183_105 : decode cX12_byLaw 105 = .ok (.iaload, 1) := by decide +kernel
theorem k183_105 {d : Nat} {l0 l1 l2 : Option PV} {st : List PV} {M : Mem} {Q : Option PV → Mem → Prop} {r : Nat} {j : Int32} (hk : mK M r = 13) (hj : inb j (mN M r)) (h1 : r ≠ 1) : WP d 183 105 [l0, l1, l2] (vi j :: vr r :: st) M Q = WP d 183 106 [l0, l1, l2] (vi (mI M r (ix j)) :: st) M Q := w_iald mC_183 d183_105 (by decide) hk hj h1
theorem d183_106 : decode cX12_byLaw 106 = .ok (.if_icmp .le 25, 3) := by decide +kernel
theorem k183_106 {d : Nat} {l0 l1 l2 : Option PV} {st : List PV} {M : Mem} {Q : Option PV → Mem → Prop} {x y : Int32} : WP d 183 106 [l0, l1, l2] (vi y :: vi x :: st) M Q = (if x ≤ y then WP d 183 131 [l0, l1, l2] (st) M Q else WP d 183 109 [l0, l1, l2] (st) M Q) := w_ic_le mC_183 d183_106 (by decide)
theorem d183_109 : decode cX12_byLaw 109 = .ok (.aload_n 0, 1) := by decide +kernel
theorem k183_109 {d x : Nat} {l1 l2 : Option PV} {st : List PV} {M : Mem} {Q : Option PV → Mem → Prop} : WP d 183 109 [some (vr x), l1, l2] (st) M Q = WP d 183 110 [some (vr x), l1, l2] (vr x :: st) M Q := w1 mC_183 d183_109 rfl rfl
theorem d183_110 : decode cX12_byLaw 110 = .ok (.aload_n 0, 1) := by decide +kernel
theorem k183_110 {d x : Nat} {l1 l2 : Option PV} {st : List PV} {M : Mem} {Q : Option PV → Mem → Prop} : WP d 183 110 [some (vr x), l1, l2] (st) M Q = WP d 183 111 [some (vr x), l1, l2] (vr x :: st) M Q := w1 mC_183 d183_110 rfl rfl
theorem d183_111 : decode cX12_byLaw 111 = .ok (.getfield 21, 3) := by decide +kernel
theorem k183_111 {d : Nat} {l0 l1 l2 : Option PV} {st : List PV} {M : Mem} {Q : Option PV → Mem → Prop} {r : Nat} (hk : mK M r = 12) : WP d 183 111 [l0, l1, l2] (vr r :: st) M Q = WP d 183 114 [l0, l1, l2] (vr (mR M r 8) :: st) M Q := w_getr mC_183 d183_111 fE_12_21 rfl (by rw [hk]; rfl)
theorem d183_114 : decode cX12_byLaw 114 = .ok (.iload_n 2, 1) := by decide +kernel
theorem k183_114 {d : Nat} {x : Int32} {l0 l1 : Option PV} {st : List PV} {M : Mem} {Q : Option PV → Mem → Prop} : WP d 183 114 [l0, l1, some (vi x)] (st) M Q = WP d 183 115 [l0, l1, some (vi x)] (vi x :: st) M Q := w1 mC_183 d183_114 rfl rfl
theorem d183_115 : decode cX12_byLaw 115 = .ok (.iaload, 1) := by decide +kernel
theorem k183_115 {d : Nat} {l0 l1 l2 : Option PV} {st : List PV} {M : Mem} {Q : Option PV → Mem → Prop} {r : Nat} {j : Int32} (hk : mK M r = 13) (hj : inb j (mN M r)) (h1 : r ≠ 1) : WP d 183 115 [l0, l1, l2] (vi j :: vr r :: st) M Q = WP d 183 116 [l0, l1, l2] (vi (mI M r (ix j)) :: st) M Q := w_iald mC_183 d183_115 (by decide) hk hj h1
theorem d183_116 : decode cX12_byLaw 116 = .ok (.aload_n 0, 1) := by decide +kernel
theorem k183_116 {d x : Nat} {l1 l2 : Option PV} {st : List PV} {M : Mem} {Q : Option PV → Mem → Prop} : WP d 183 116 [some (vr x), l1, l2] (st) M Q = WP d 183 117 [some (vr x), l1, l2] (vr x :: st) M Q := w1 mC_183 d183_116 rfl rfl
theorem d183_117 : decode cX12_byLaw 117 = .ok (.getfield 24, 3) := by decide +kernel
theorem k183_117 {d : Nat} {l0 l1 l2 : Option PV} {st : List PV} {M : Mem} {Q : Option PV → Mem → Prop} {r : Nat} (hk : mK M r = 12) : WP d 183 117 [l0, l1, l2] (vr r :: st) M Q = WP d 183 120 [l0, l1, l2] (vr (mR M r 9) :: st) M Q := w_getr mC_183 d183_117 fE_12_24 rfl (by rw [hk]; rfl)
theorem d183_120 : decode cX12_byLaw 120 = .ok (.iload_n 2, 1) := by decide +kernel
theorem k183_120 {d : Nat} {x : Int32} {l0 l1 : Option PV} {st : List PV} {M : Mem} {Q : Option PV → Mem → Prop} : WP d 183 120 [l0, l1, some (vi x)] (st) M Q = WP d 183 121 [l0, l1, some (vi x)] (vi x :: st) M Q := w1 mC_183 d183_120 rfl rfl
theorem d183_121 : decode cX12_byLaw 121 = .ok (.iaload, 1) := by decide +kernel
theorem k183_121 {d : Nat} {l0 l1 l2 : Option PV} {st : List PV} {M : Mem} {Q : Option PV → Mem → Prop} {r : Nat} {j : Int32} (hk : mK M r = 13) (hj : inb j (mN M r)) (h1 : r ≠ 1) : WP d 183 121 [l0, l1, l2] (vi j :: vr r :: st) M Q = WP d 183 122 [l0, l1, l2] (vi (mI M r (ix j)) :: st) M Q := w_iald mC_183 d183_121 (by decide) hk hj h1
theorem d183_122 : decode cX12_byLaw 122 = .ok (.invokevirtual 237, 3) := by decide +kernel
theorem k183_122 {d : Nat} {l0 l1 l2 : Option PV} {st : List PV} {M : Mem} {Q : Option PV → Mem → Prop} {a0 a1 : Int32} {r : Nat} (hl : szL st ≤ 8) (hk : mK M r = 12) : WP (d + 1) 183 122 [l0, l1, l2] (vi a1 :: vi a0 :: vr r :: st) M Q = WP d 179 0 [some (vr r), some (vi a0), some (vi a1), none, none, none] [] M (fun v M' => WP (d + 1) 183 125 [l0, l1, l2] (psh v st) M' Q) := w_callV mC_183 d183_122 (ci := 12) rfl rfl rfl (Nat.le_of_ble_eq_true rfl) (by decide) rfl hl hk
theorem d183_125 : decode cX12_byLaw 125 = .ok (.ifCond .ne 6, 3) := by decide +kernel
theorem k183_125 {d : Nat} {l0 l1 l2 : Option PV} {st : List PV} {M : Mem} {Q : Option PV → Mem → Prop} {x : Int32} : WP d 183 125 [l0, l1, l2] (vi x :: st) M Q = (if x = 0 then WP d 183 128 [l0, l1, l2] (st) M Q else WP d 183 131 [l0, l1, l2] (st) M Q) := w_if_ne mC_183 d183_125 (by decide)
theorem d183_128 : decode cX12_byLaw 128 = .ok (.goto 20, 3) := by decide +kernel
theorem k183_128 {d : Nat} {l0 l1 l2 : Option PV} {st : List PV} {M : Mem} {Q : Option PV → Mem → Prop} : WP d 183 128 [l0, l1, l2] (st) M Q = WP d 183 148 [l0, l1, l2] (st) M Q := w_goto mC_183 d183_128 (by decide)
theorem d183_131 : decode cX12_byLaw 131 = .ok (.aload_n 0, 1) := by decide +kernel
theorem k183_131 {d x : Nat} {l1 l2 : Option PV} {st : List PV} {M : Mem} {Q : Option PV → Mem → Prop} : WP d 183 131 [some (vr x), l1, l2] (st) M Q = WP d 183 132 [some (vr x), l1, l2] (vr x :: st) M Q := w1 mC_183 d183_131 rfl rfl
theorem d183_132 : decode cX12_byLaw 132 = .ok (.aload_n 0, 1) := by decide +kernel
theorem k183_132 {d x : Nat} {l1 l2 : Option PV} {st : List PV} {M : Mem} {Q : Option PV → Mem → Prop} : WP d 183 132 [some (vr x), l1, l2] (st) M Q = WP d 183 133 [some (vr x), l1, l2] (vr x :: st) M Q := w1 mC_183 d183_132 rfl rfl
theorem d183_133 : decode cX12_byLaw 133 = .ok (.getfield 24, 3) := by decide +kernel
theorem k183_133 {d : Nat} {l0 l1 l2 : Option PV} {st : List PV} {M : Mem} {Q : Option PV → Mem → Prop} {r : Nat} (hk : mK M r = 12) : WP d 183 133 [l0, l1, l2] (vr r :: st) M Q = WP d 183 136 [l0, l1, l2] (vr (mR M r 9) :: st) M Q := w_getr mC_183 d183_133 fE_12_24 rfl (by rw [hk]; rfl)
theorem d183_136 : decode cX12_byLaw 136 = .ok (.iload_n 2, 1) := by decide +kernel
theorem k183_136 {d : Nat} {x : Int32} {l0 l1 : Option PV} {st : List PV} {M : Mem} {Q : Option PV → Mem → Prop} : WP d 183 136 [l0, l1, some (vi x)] (st) M Q = WP d 183 137 [l0, l1, some (vi x)] (vi x :: st) M Q := w1 mC_183 d183_136 rfl rfl
theorem d183_137 : decode cX12_byLaw 137 = .ok (.iaload, 1) := by decide +kernel
theorem k183_137 {d : Nat} {l0 l1 l2 : Option PV} {st : List PV} {M : Mem} {Q : Option PV → Mem → Prop} {r : Nat} {j : Int32} (hk : mK M r = 13) (hj : inb j (mN M r)) (h1 : r ≠ 1) : WP d 183 137 [l0, l1, l2] (vi j :: vr r :: st) M Q = WP d 183 138 [l0, l1, l2] (vi (mI M r (ix j)) :: st) M Q := w_iald mC_183 d183_137 (by decide) hk hj h1
theorem d183_138 : decode cX12_byLaw 138 = .ok (.aload_n 0, 1) := by decide +kernel
theorem k183_138 {d x : Nat} {l1 l2 : Option PV} {st : List PV} {M : Mem} {Q : Option PV → Mem → Prop} : WP d 183 138 [some (vr x), l1, l2] (st) M Q = WP d 183 139 [some (vr x), l1, l2] (vr x :: st) M Q := w1 mC_183 d183_138 rfl rfl
theorem d183_139 : decode cX12_byLaw 139 = .ok (.getfield 27, 3) := by decide +kernel
theorem k183_139 {d : Nat} {l0 l1 l2 : Option PV} {st : List PV} {M : Mem} {Q : Option PV → Mem → Prop} {r : Nat} (hk : mK M r = 12) : WP d 183 139 [l0, l1, l2] (vr r :: st) M Q = WP d 183 142 [l0, l1, l2] (vr (mR M r 10) :: st) M Q := w_getr mC_183 d183_139 fE_12_27 rfl (by rw [hk]; rfl)
theorem d183_142 : decode cX12_byLaw 142 = .ok (.iload_n 2, 1) := by decide +kernel
theorem k183_142 {d : Nat} {x : Int32} {l0 l1 : Option PV} {st : List PV} {M : Mem} {Q : Option PV → Mem → Prop} : WP d 183 142 [l0, l1, some (vi x)] (st) M Q = WP d 183 143 [l0, l1, some (vi x)] (vi x :: st) M Q := w1 mC_183 d183_142 rfl rfl
theorem d183_143 : decode cX12_byLaw 143 = .ok (.iaload, 1) := by decide +kernel
theorem k183_143 {d : Nat} {l0 l1 l2 : Option PV} {st : List PV} {M : Mem} {Q : Option PV → Mem → Prop} {r : Nat} {j : Int32} (hk : mK M r = 13) (hj : inb j (mN M r)) (h1 : r ≠ 1) : WP d 183 143 [l0, l1, l2] (vi j :: vr r :: st) M Q = WP d 183 144 [l0, l1, l2] (vi (mI M r (ix j)) :: st) M Q := w_iald mC_183 d183_143 (by decide) hk hj h1
theorem d183_144 : decode cX12_byLaw 144 = .ok (.invokevirtual 237, 3) := by decide +kernel
theorem k183_144 {d : Nat} {l0 l1 l2 : Option PV} {st : List PV} {M : Mem} {Q : Option PV → Mem → Prop} {a0 a1 : Int32} {r : Nat} (hl : szL st ≤ 8) (hk : mK M r = 12) : WP (d + 1) 183 144 [l0, l1, l2] (vi a1 :: vi a0 :: vr r :: st) M Q = WP d 179 0 [some (vr r), some (vi a0), some (vi a1), none, none, none] [] M (fun v M' => WP (d + 1) 183 147 [l0, l1, l2] (psh v st) M' Q) := w_callV mC_183 d183_144 (ci := 12) rfl rfl rfl (Nat.le_of_ble_eq_true rfl) (by decide) rfl hl hk
theorem d183_147 : decode cX12_byLaw 147 = .ok (.ireturn, 1) := by decide +kernel
theorem k183_147 {d : Nat} {l0 l1 l2 : Option PV} {M : Mem} {Q : Option PV → Mem → Prop} {x : Int32} : WP d 183 147 [l0, l1, l2] ([vi x]) M Q = Q (some (vi x)) M := w_iret mC_183 d183_147 rfl
theorem d183_148 : decode cX12_byLaw 148 = .ok (.iinc 2 1, 3) := by decide +kernel
theorem k183_148 {d : Nat} {x : Int32} {l0 l1 : Option PV} {st : List PV} {M : Mem} {Q : Option PV → Mem → Prop} : WP d 183 148 [l0, l1, some (vi x)] (st) M Q = WP d 183 151 [l0, l1, some (vi (x + 1))] (st) M Q := w_iinc mC_183 d183_148 rfl (by decide) rfl
theorem d183_151 : decode cX12_byLaw 151 = .ok (.goto (-65), 3) := by decide +kernel
theorem k183_151 {d : Nat} {l0 l1 l2 : Option PV} {st : List PV} {M : Mem} {Q : Option PV → Mem → Prop} : WP d 183 151 [l0, l1, l2] (st) M Q = WP d 183 86 [l0, l1, l2] (st) M Q := w_goto mC_183 d183_151 (by decide)
theorem d183_154 : decode cX12_byLaw 154 = .ok (.iconst 0, 1) := by decide +kernel
theorem k183_154 {d : Nat} {l0 l1 l2 : Option PV} {st : List PV} {M : Mem} {Q : Option PV → Mem → Prop} : WP d 183 154 [l0, l1, l2] (st) M Q = WP d 183 155 [l0, l1, l2] (vi 0 :: st) M Q := w_iconst mC_183 d183_154 (by decide)
theorem d183_155 : decode cX12_byLaw 155 = .ok (.ireturn, 1) := by decide +kernel
theorem k183_155 {d : Nat} {l0 l1 l2 : Option PV} {M : Mem} {Q : Option PV → Mem → Prop} {x : Int32} : WP d 183 155 [l0, l1, l2] ([vi x]) M Q = Q (some (vi x)) M := w_iret mC_183 d183_155 rfl
theorem d184_0 : decode cX12_losesBy 0 = .ok (.aload_n 0, 1) := by decide +kernel
theorem k184_0 {d x : Nat} {l1 l2 : Option PV} {st : List PV} {M : Mem} {Q : Option PV → Mem → Prop} : WP d 184 0 [some (vr x), l1, l2] (st) M Q = WP d 184 1 [some (vr x), l1, l2] (vr x :: st) M Q := w1 mC_184 d184_0 rfl rfl
theorem d184_1 : decode cX12_losesBy 1 = .ok (.iload_n 1, 1) := by decide +kernel
theorem k184_1 {d : Nat} {x : Int32} {l0 l2 : Option PV} {st : List PV} {M : Mem} {Q : Option PV → Mem → Prop} : WP d 184 1 [l0, some (vi x), l2] (st) M Q = WP d 184 2 [l0, some (vi x), l2] (vi x :: st) M Q := w1 mC_184 d184_1 rfl rfl
theorem d184_2 : decode cX12_losesBy 2 = .ok (.invokevirtual 231, 3) := by decide +kernel
theorem k184_2 {d : Nat} {l0 l1 l2 : Option PV} {st : List PV} {M : Mem} {Q : Option PV → Mem → Prop} {a0 : Int32} {r : Nat} (hl : szL st ≤ 8) (hk : mK M r = 12) : WP (d + 1) 184 2 [l0, l1, l2] (vi a0 :: vr r :: st) M Q = WP d 181 0 [some (vr r), some (vi a0)] [] M (fun v M' => WP (d + 1) 184 5 [l0, l1, l2] (psh v st) M' Q) := w_callV mC_184 d184_2 (ci := 12) rfl rfl rfl (Nat.le_of_ble_eq_true rfl) (by decide) rfl hl hk
theorem d184_5 : decode cX12_losesBy 5 = .ok (.iconst (-1), 1) := by decide +kernel
theorem k184_5 {d : Nat} {l0 l1 l2 : Option PV} {st : List PV} {M : Mem} {Q : Option PV → Mem → Prop} : WP d 184 5 [l0, l1, l2] (st) M Q = WP d 184 6 [l0, l1, l2] (vi (-1) :: st) M Q := w_iconst mC_184 d184_5 (by decide)
theorem d184_6 : decode cX12_losesBy 6 = .ok (.if_icmp .ne 5, 3) := by decide +kernel
theorem k184_6 {d : Nat} {l0 l1 l2 : Option PV} {st : List PV} {M : Mem} {Q : Option PV → Mem → Prop} {x y : Int32} : WP d 184 6 [l0, l1, l2] (vi y :: vi x :: st) M Q = (if x = y then WP d 184 9 [l0, l1, l2] (st) M Q else WP d 184 11 [l0, l1, l2] (st) M Q) := w_ic_ne mC_184 d184_6 (by decide)
theorem d184_9 : decode cX12_losesBy 9 = .ok (.iconst 0, 1) := by decide +kernel
theorem k184_9 {d : Nat} {l0 l1 l2 : Option PV} {st : List PV} {M : Mem} {Q : Option PV → Mem → Prop} : WP d 184 9 [l0, l1, l2] (st) M Q = WP d 184 10 [l0, l1, l2] (vi 0 :: st) M Q := w_iconst mC_184 d184_9 (by decide)
theorem d184_10 : decode cX12_losesBy 10 = .ok (.ireturn, 1) := by decide +kernel
theorem k184_10 {d : Nat} {l0 l1 l2 : Option PV} {M : Mem} {Q : Option PV → Mem → Prop} {x : Int32} : WP d 184 10 [l0, l1, l2] ([vi x]) M Q = Q (some (vi x)) M := w_iret mC_184 d184_10 rfl
theorem d184_11 : decode cX12_losesBy 11 = .ok (.aload_n 0, 1) := by decide +kernel
theorem k184_11 {d x : Nat} {l1 l2 : Option PV} {st : List PV} {M : Mem} {Q : Option PV → Mem → Prop} : WP d 184 11 [some (vr x), l1, l2] (st) M Q = WP d 184 12 [some (vr x), l1, l2] (vr x :: st) M Q := w1 mC_184 d184_11 rfl rfl
theorem d184_12 : decode cX12_losesBy 12 = .ok (.getfield 212, 3) := by decide +kernel
theorem k184_12 {d : Nat} {l0 l1 l2 : Option PV} {st : List PV} {M : Mem} {Q : Option PV → Mem → Prop} {r : Nat} (hk : mK M r = 12) : WP d 184 12 [l0, l1, l2] (vr r :: st) M Q = WP d 184 15 [l0, l1, l2] (vi (mI M r 6) :: st) M Q := w_get mC_184 d184_12 fE_12_212 rfl (by rw [hk]; rfl)
theorem d184_15 : decode cX12_losesBy 15 = .ok (.ifCond .eq 11, 3) := by decide +kernel
theorem k184_15 {d : Nat} {l0 l1 l2 : Option PV} {st : List PV} {M : Mem} {Q : Option PV → Mem → Prop} {x : Int32} : WP d 184 15 [l0, l1, l2] (vi x :: st) M Q = (if x = 0 then WP d 184 26 [l0, l1, l2] (st) M Q else WP d 184 18 [l0, l1, l2] (st) M Q) := w_if_eq mC_184 d184_15 (by decide)
theorem d184_18 : decode cX12_losesBy 18 = .ok (.aload_n 0, 1) := by decide +kernel
theorem k184_18 {d x : Nat} {l1 l2 : Option PV} {st : List PV} {M : Mem} {Q : Option PV → Mem → Prop} : WP d 184 18 [some (vr x), l1, l2] (st) M Q = WP d 184 19 [some (vr x), l1, l2] (vr x :: st) M Q := w1 mC_184 d184_18 rfl rfl
theorem d184_19 : decode cX12_losesBy 19 = .ok (.iload_n 1, 1) := by decide +kernel
theorem k184_19 {d : Nat} {x : Int32} {l0 l2 : Option PV} {st : List PV} {M : Mem} {Q : Option PV → Mem → Prop} : WP d 184 19 [l0, some (vi x), l2] (st) M Q = WP d 184 20 [l0, some (vi x), l2] (vi x :: st) M Q := w1 mC_184 d184_19 rfl rfl
theorem d184_20 : decode cX12_losesBy 20 = .ok (.invokevirtual 240, 3) := by decide +kernel
theorem k184_20 {d : Nat} {l0 l1 l2 : Option PV} {st : List PV} {M : Mem} {Q : Option PV → Mem → Prop} {a0 : Int32} {r : Nat} (hl : szL st ≤ 8) (hk : mK M r = 12) : WP (d + 1) 184 20 [l0, l1, l2] (vi a0 :: vr r :: st) M Q = WP d 183 0 [some (vr r), some (vi a0), none] [] M (fun v M' => WP (d + 1) 184 23 [l0, l1, l2] (psh v st) M' Q) := w_callV mC_184 d184_20 (ci := 12) rfl rfl rfl (Nat.le_of_ble_eq_true rfl) (by decide) rfl hl hk
theorem d184_23 : decode cX12_losesBy 23 = .ok (.goto 21, 3) := by decide +kernel
theorem k184_23 {d : Nat} {l0 l1 l2 : Option PV} {st : List PV} {M : Mem} {Q : Option PV → Mem → Prop} : WP d 184 23 [l0, l1, l2] (st) M Q = WP d 184 44 [l0, l1, l2] (st) M Q := w_goto mC_184 d184_23 (by decide)
theorem d184_26 : decode cX12_losesBy 26 = .ok (.aload_n 0, 1) := by decide +kernel
theorem k184_26 {d x : Nat} {l1 l2 : Option PV} {st : List PV} {M : Mem} {Q : Option PV → Mem → Prop} : WP d 184 26 [some (vr x), l1, l2] (st) M Q = WP d 184 27 [some (vr x), l1, l2] (vr x :: st) M Q := w1 mC_184 d184_26 rfl rfl
theorem d184_27 : decode cX12_losesBy 27 = .ok (.getfield 9, 3) := by decide +kernel
theorem k184_27 {d : Nat} {l0 l1 l2 : Option PV} {st : List PV} {M : Mem} {Q : Option PV → Mem → Prop} {r : Nat} (hk : mK M r = 12) : WP d 184 27 [l0, l1, l2] (vr r :: st) M Q = WP d 184 30 [l0, l1, l2] (vr (mR M r 2) :: st) M Q := w_getr mC_184 d184_27 fE_12_9 rfl (by rw [hk]; rfl)
theorem d184_30 : decode cX12_losesBy 30 = .ok (.bipush 24, 2) := by decide +kernel
theorem k184_30 {d : Nat} {l0 l1 l2 : Option PV} {st : List PV} {M : Mem} {Q : Option PV → Mem → Prop} : WP d 184 30 [l0, l1, l2] (st) M Q = WP d 184 32 [l0, l1, l2] (vi 24 :: st) M Q := w_bipush mC_184 d184_30 (by decide)
theorem d184_32 : decode cX12_losesBy 32 = .ok (.iload_n 1, 1) := by decide +kernel
theorem k184_32 {d : Nat} {x : Int32} {l0 l2 : Option PV} {st : List PV} {M : Mem} {Q : Option PV → Mem → Prop} : WP d 184 32 [l0, some (vi x), l2] (st) M Q = WP d 184 33 [l0, some (vi x), l2] (vi x :: st) M Q := w1 mC_184 d184_32 rfl rfl
theorem d184_33 : decode cX12_losesBy 33 = .ok (.iadd, 1) := by decide +kernel
theorem k184_33 {d : Nat} {l0 l1 l2 : Option PV} {st : List PV} {M : Mem} {Q : Option PV → Mem → Prop} {x y : Int32} : WP d 184 33 [l0, l1, l2] (vi y :: vi x :: st) M Q = WP d 184 34 [l0, l1, l2] (vi (x + y) :: st) M Q := w1 mC_184 d184_33 rfl rfl
theorem d184_34 : decode cX12_losesBy 34 = .ok (.iaload, 1) := by decide +kernel
theorem k184_34 {d : Nat} {l0 l1 l2 : Option PV} {st : List PV} {M : Mem} {Q : Option PV → Mem → Prop} {r : Nat} {j : Int32} (hk : mK M r = 13) (hj : inb j (mN M r)) (h1 : r ≠ 1) : WP d 184 34 [l0, l1, l2] (vi j :: vr r :: st) M Q = WP d 184 35 [l0, l1, l2] (vi (mI M r (ix j)) :: st) M Q := w_iald mC_184 d184_34 (by decide) hk hj h1
theorem d184_35 : decode cX12_losesBy 35 = .ok (.aload_n 0, 1) := by decide +kernel
theorem k184_35 {d x : Nat} {l1 l2 : Option PV} {st : List PV} {M : Mem} {Q : Option PV → Mem → Prop} : WP d 184 35 [some (vr x), l1, l2] (st) M Q = WP d 184 36 [some (vr x), l1, l2] (vr x :: st) M Q := w1 mC_184 d184_35 rfl rfl
theorem d184_36 : decode cX12_losesBy 36 = .ok (.getfield 15, 3) := by decide +kernel
theorem k184_36 {d : Nat} {l0 l1 l2 : Option PV} {st : List PV} {M : Mem} {Q : Option PV → Mem → Prop} {r : Nat} (hk : mK M r = 12) : WP d 184 36 [l0, l1, l2] (vr r :: st) M Q = WP d 184 39 [l0, l1, l2] (vr (mR M r 3) :: st) M Q := w_getr mC_184 d184_36 fE_12_15 rfl (by rw [hk]; rfl)
theorem d184_39 : decode cX12_losesBy 39 = .ok (.iconst 1, 1) := by decide +kernel
theorem k184_39 {d : Nat} {l0 l1 l2 : Option PV} {st : List PV} {M : Mem} {Q : Option PV → Mem → Prop} : WP d 184 39 [l0, l1, l2] (st) M Q = WP d 184 40 [l0, l1, l2] (vi 1 :: st) M Q := w_iconst mC_184 d184_39 (by decide)
theorem d184_40 : decode cX12_losesBy 40 = .ok (.iaload, 1) := by decide +kernel
theorem k184_40 {d : Nat} {l0 l1 l2 : Option PV} {st : List PV} {M : Mem} {Q : Option PV → Mem → Prop} {r : Nat} {j : Int32} (hk : mK M r = 13) (hj : inb j (mN M r)) (h1 : r ≠ 1) : WP d 184 40 [l0, l1, l2] (vi j :: vr r :: st) M Q = WP d 184 41 [l0, l1, l2] (vi (mI M r (ix j)) :: st) M Q := w_iald mC_184 d184_40 (by decide) hk hj h1
theorem d184_41 : decode cX12_losesBy 41 = .ok (.iconst 4, 1) := by decide +kernel
theorem k184_41 {d : Nat} {l0 l1 l2 : Option PV} {st : List PV} {M : Mem} {Q : Option PV → Mem → Prop} : WP d 184 41 [l0, l1, l2] (st) M Q = WP d 184 42 [l0, l1, l2] (vi 4 :: st) M Q := w_iconst mC_184 d184_41 (by decide)
theorem d184_42 : decode cX12_losesBy 42 = .ok (.idiv, 1) := by decide +kernel
theorem k184_42 {d : Nat} {l0 l1 l2 : Option PV} {st : List PV} {M : Mem} {Q : Option PV → Mem → Prop} {x y : Int32} (h : y ≠ 0) : WP d 184 42 [l0, l1, l2] (vi y :: vi x :: st) M Q = WP d 184 43 [l0, l1, l2] (vi (x / y) :: st) M Q := w_div mC_184 d184_42 h
theorem d184_43 : decode cX12_losesBy 43 = .ok (.iadd, 1) := by decide +kernel
theorem k184_43 {d : Nat} {l0 l1 l2 : Option PV} {st : List PV} {M : Mem} {Q : Option PV → Mem → Prop} {x y : Int32} : WP d 184 43 [l0, l1, l2] (vi y :: vi x :: st) M Q = WP d 184 44 [l0, l1, l2] (vi (x + y) :: st) M Q := w1 mC_184 d184_43 rfl rfl
theorem d184_44 : decode cX12_losesBy 44 = .ok (.istore_n 2, 1) := by decide +kernel
theorem k184_44 {d : Nat} {l0 l1 l2 : Option PV} {st : List PV} {M : Mem} {Q : Option PV → Mem → Prop} {x : Int32} : WP d 184 44 [l0, l1, l2] (vi x :: st) M Q = WP d 184 45 [l0, l1, some (vi x)] (st) M Q := w1 mC_184 d184_44 rfl rfl
theorem d184_45 : decode cX12_losesBy 45 = .ok (.iconst 0, 1) := by decide +kernel
theorem k184_45 {d : Nat} {l0 l1 l2 : Option PV} {st : List PV} {M : Mem} {Q : Option PV → Mem → Prop} : WP d 184 45 [l0, l1, l2] (st) M Q = WP d 184 46 [l0, l1, l2] (vi 0 :: st) M Q := w_iconst mC_184 d184_45 (by decide)
theorem d184_46 : decode cX12_losesBy 46 = .ok (.bipush 20, 2) := by decide +kernel
theorem k184_46 {d : Nat} {l0 l1 l2 : Option PV} {st : List PV} {M : Mem} {Q : Option PV → Mem → Prop} : WP d 184 46 [l0, l1, l2] (st) M Q = WP d 184 48 [l0, l1, l2] (vi 20 :: st) M Q := w_bipush mC_184 d184_46 (by decide)
theorem d184_48 : decode cX12_losesBy 48 = .ok (.aload_n 0, 1) := by decide +kernel
theorem k184_48 {d x : Nat} {l1 l2 : Option PV} {st : List PV} {M : Mem} {Q : Option PV → Mem → Prop} : WP d 184 48 [some (vr x), l1, l2] (st) M Q = WP d 184 49 [some (vr x), l1, l2] (vr x :: st) M Q := w1 mC_184 d184_48 rfl rfl
theorem d184_49 : decode cX12_losesBy 49 = .ok (.iload_n 1, 1) := by decide +kernel
theorem k184_49 {d : Nat} {x : Int32} {l0 l2 : Option PV} {st : List PV} {M : Mem} {Q : Option PV → Mem → Prop} : WP d 184 49 [l0, some (vi x), l2] (st) M Q = WP d 184 50 [l0, some (vi x), l2] (vi x :: st) M Q := w1 mC_184 d184_49 rfl rfl
theorem d184_50 : decode cX12_losesBy 50 = .ok (.invokevirtual 228, 3) := by decide +kernel
theorem k184_50 {d : Nat} {l0 l1 l2 : Option PV} {st : List PV} {M : Mem} {Q : Option PV → Mem → Prop} {a0 : Int32} {r : Nat} (hl : szL st ≤ 8) (hk : mK M r = 12) : WP (d + 1) 184 50 [l0, l1, l2] (vi a0 :: vr r :: st) M Q = WP d 182 0 [some (vr r), some (vi a0)] [] M (fun v M' => WP (d + 1) 184 53 [l0, l1, l2] (psh v st) M' Q) := w_callV mC_184 d184_50 (ci := 12) rfl rfl rfl (Nat.le_of_ble_eq_true rfl) (by decide) rfl hl hk
theorem d184_53 : decode cX12_losesBy 53 = .ok (.invokestatic 243, 3) := by decide +kernel
theorem k184_53 {d : Nat} {l0 l1 l2 : Option PV} {st : List PV} {M : Mem} {Q : Option PV → Mem → Prop} {x y : Int32} (hl : szL st ≤ 8) : WP d 184 53 [l0, l1, l2] (vi y :: vi x :: st) M Q = WP d 184 56 [l0, l1, l2] (vi (if y < x then y else x) :: st) M Q := w_min mC_184 d184_53 rfl rfl rfl hl
theorem d184_56 : decode cX12_losesBy 56 = .ok (.iload_n 2, 1) := by decide +kernel
theorem k184_56 {d : Nat} {x : Int32} {l0 l1 : Option PV} {st : List PV} {M : Mem} {Q : Option PV → Mem → Prop} : WP d 184 56 [l0, l1, some (vi x)] (st) M Q = WP d 184 57 [l0, l1, some (vi x)] (vi x :: st) M Q := w1 mC_184 d184_56 rfl rfl
theorem d184_57 : decode cX12_losesBy 57 = .ok (.invokestatic 243, 3) := by decide +kernel
theorem k184_57 {d : Nat} {l0 l1 l2 : Option PV} {st : List PV} {M : Mem} {Q : Option PV → Mem → Prop} {x y : Int32} (hl : szL st ≤ 8) : WP d 184 57 [l0, l1, l2] (vi y :: vi x :: st) M Q = WP d 184 60 [l0, l1, l2] (vi (if y < x then y else x) :: st) M Q := w_min mC_184 d184_57 rfl rfl rfl hl
theorem d184_60 : decode cX12_losesBy 60 = .ok (.invokestatic 246, 3) := by decide +kernel
theorem k184_60 {d : Nat} {l0 l1 l2 : Option PV} {st : List PV} {M : Mem} {Q : Option PV → Mem → Prop} {x y : Int32} (hl : szL st ≤ 8) : WP d 184 60 [l0, l1, l2] (vi y :: vi x :: st) M Q = WP d 184 63 [l0, l1, l2] (vi (if x < y then y else x) :: st) M Q := w_max mC_184 d184_60 rfl rfl rfl hl
theorem d184_63 : decode cX12_losesBy 63 = .ok (.ireturn, 1) := by decide +kernel
theorem k184_63 {d : Nat} {l0 l1 l2 : Option PV} {M : Mem} {Q : Option PV → Mem → Prop} {x : Int32} : WP d 184 63 [l0, l1, l2] ([vi x]) M Q = Q (some (vi x)) M := w_iret mC_184 d184_63 rfl
theorem d185_0 : decode cX12_loses 0 = .ok (.aload_n 0, 1) := by decide +kernel
theorem k185_0 {d x : Nat} {l1 : Option PV} {st : List PV} {M : Mem} {Q : Option PV → Mem → Prop} : WP d 185 0 [some (vr x), l1] (st) M Q = WP d 185 1 [some (vr x), l1] (vr x :: st) M Q := w1 mC_185 d185_0 rfl rfl
theorem d185_1 : decode cX12_loses 1 = .ok (.iload_n 1, 1) := by decide +kernel
theorem k185_1 {d : Nat} {x : Int32} {l0 : Option PV} {st : List PV} {M : Mem} {Q : Option PV → Mem → Prop} : WP d 185 1 [l0, some (vi x)] (st) M Q = WP d 185 2 [l0, some (vi x)] (vi x :: st) M Q := w1 mC_185 d185_1 rfl rfl
theorem d185_2 : decode cX12_loses 2 = .ok (.invokevirtual 134, 3) := by decide +kernel
theorem k185_2 {d : Nat} {l0 l1 : Option PV} {st : List PV} {M : Mem} {Q : Option PV → Mem → Prop} {a0 : Int32} {r : Nat} (hl : szL st ≤ 8) (hk : mK M r = 12) : WP (d + 1) 185 2 [l0, l1] (vi a0 :: vr r :: st) M Q = WP d 147 0 [some (vr r), some (vi a0)] [] M (fun v M' => WP (d + 1) 185 5 [l0, l1] (psh v st) M' Q) := w_callV mC_185 d185_2 (ci := 12) rfl rfl rfl (Nat.le_of_ble_eq_true rfl) (by decide) rfl hl hk
theorem d185_5 : decode cX12_loses 5 = .ok (.ifCond .eq 11, 3) := by decide +kernel
theorem k185_5 {d : Nat} {l0 l1 : Option PV} {st : List PV} {M : Mem} {Q : Option PV → Mem → Prop} {x : Int32} : WP d 185 5 [l0, l1] (vi x :: st) M Q = (if x = 0 then WP d 185 16 [l0, l1] (st) M Q else WP d 185 8 [l0, l1] (st) M Q) := w_if_eq mC_185 d185_5 (by decide)
theorem d185_8 : decode cX12_loses 8 = .ok (.aload_n 0, 1) := by decide +kernel
theorem k185_8 {d x : Nat} {l1 : Option PV} {st : List PV} {M : Mem} {Q : Option PV → Mem → Prop} : WP d 185 8 [some (vr x), l1] (st) M Q = WP d 185 9 [some (vr x), l1] (vr x :: st) M Q := w1 mC_185 d185_8 rfl rfl
theorem d185_9 : decode cX12_loses 9 = .ok (.iload_n 1, 1) := by decide +kernel
theorem k185_9 {d : Nat} {x : Int32} {l0 : Option PV} {st : List PV} {M : Mem} {Q : Option PV → Mem → Prop} : WP d 185 9 [l0, some (vi x)] (st) M Q = WP d 185 10 [l0, some (vi x)] (vi x :: st) M Q := w1 mC_185 d185_9 rfl rfl
theorem d185_10 : decode cX12_loses 10 = .ok (.invokevirtual 249, 3) := by decide +kernel
theorem k185_10 {d : Nat} {l0 l1 : Option PV} {st : List PV} {M : Mem} {Q : Option PV → Mem → Prop} {a0 : Int32} {r : Nat} (hl : szL st ≤ 8) (hk : mK M r = 12) : WP (d + 1) 185 10 [l0, l1] (vi a0 :: vr r :: st) M Q = WP d 184 0 [some (vr r), some (vi a0), none] [] M (fun v M' => WP (d + 1) 185 13 [l0, l1] (psh v st) M' Q) := w_callV mC_185 d185_10 (ci := 12) rfl rfl rfl (Nat.le_of_ble_eq_true rfl) (by decide) rfl hl hk
theorem d185_13 : decode cX12_loses 13 = .ok (.goto 4, 3) := by decide +kernel
theorem k185_13 {d : Nat} {l0 l1 : Option PV} {st : List PV} {M : Mem} {Q : Option PV → Mem → Prop} : WP d 185 13 [l0, l1] (st) M Q = WP d 185 17 [l0, l1] (st) M Q := w_goto mC_185 d185_13 (by decide)
theorem d185_16 : decode cX12_loses 16 = .ok (.iconst (-1), 1) := by decide +kernel
theorem k185_16 {d : Nat} {l0 l1 : Option PV} {st : List PV} {M : Mem} {Q : Option PV → Mem → Prop} : WP d 185 16 [l0, l1] (st) M Q = WP d 185 17 [l0, l1] (vi (-1) :: st) M Q := w_iconst mC_185 d185_16 (by decide)
theorem d185_17 : decode cX12_loses 17 = .ok (.ireturn, 1) := by decide +kernel
theorem k185_17 {d : Nat} {l0 l1 : Option PV} {M : Mem} {Q : Option PV → Mem → Prop} {x : Int32} : WP d 185 17 [l0, l1] ([vi x]) M Q = Q (some (vi x)) M := w_iret mC_185 d185_17 rfl
theorem d186_0 : decode cX12_nearer 0 = .ok (.iload_n 0, 1) := by decide +kernel
theorem k186_0 {d : Nat} {x : Int32} {l1 : Option PV} {st : List PV} {M : Mem} {Q : Option PV → Mem → Prop} : WP d 186 0 [some (vi x), l1] (st) M Q = WP d 186 1 [some (vi x), l1] (vi x :: st) M Q := w1 mC_186 d186_0 rfl rfl
theorem d186_1 : decode cX12_nearer 1 = .ok (.bipush 6, 2) := by decide +kernel
theorem k186_1 {d : Nat} {l0 l1 : Option PV} {st : List PV} {M : Mem} {Q : Option PV → Mem → Prop} : WP d 186 1 [l0, l1] (st) M Q = WP d 186 3 [l0, l1] (vi 6 :: st) M Q := w_bipush mC_186 d186_1 (by decide)
theorem d186_3 : decode cX12_nearer 3 = .ok (.irem, 1) := by decide +kernel
theorem k186_3 {d : Nat} {l0 l1 : Option PV} {st : List PV} {M : Mem} {Q : Option PV → Mem → Prop} {x y : Int32} (h : y ≠ 0) : WP d 186 3 [l0, l1] (vi y :: vi x :: st) M Q = WP d 186 4 [l0, l1] (vi (x % y) :: st) M Q := w_rem mC_186 d186_3 h
theorem d186_4 : decode cX12_nearer 4 = .ok (.iload_n 1, 1) := by decide +kernel
theorem k186_4 {d : Nat} {x : Int32} {l0 : Option PV} {st : List PV} {M : Mem} {Q : Option PV → Mem → Prop} : WP d 186 4 [l0, some (vi x)] (st) M Q = WP d 186 5 [l0, some (vi x)] (vi x :: st) M Q := w1 mC_186 d186_4 rfl rfl
theorem d186_5 : decode cX12_nearer 5 = .ok (.bipush 6, 2) := by decide +kernel
theorem k186_5 {d : Nat} {l0 l1 : Option PV} {st : List PV} {M : Mem} {Q : Option PV → Mem → Prop} : WP d 186 5 [l0, l1] (st) M Q = WP d 186 7 [l0, l1] (vi 6 :: st) M Q := w_bipush mC_186 d186_5 (by decide)
theorem d186_7 : decode cX12_nearer 7 = .ok (.irem, 1) := by decide +kernel
theorem k186_7 {d : Nat} {l0 l1 : Option PV} {st : List PV} {M : Mem} {Q : Option PV → Mem → Prop} {x y : Int32} (h : y ≠ 0) : WP d 186 7 [l0, l1] (vi y :: vi x :: st) M Q = WP d 186 8 [l0, l1] (vi (x % y) :: st) M Q := w_rem mC_186 d186_7 h
theorem d186_8 : decode cX12_nearer 8 = .ok (.if_icmp .eq 24, 3) := by decide +kernel
theorem k186_8 {d : Nat} {l0 l1 : Option PV} {st : List PV} {M : Mem} {Q : Option PV → Mem → Prop} {x y : Int32} : WP d 186 8 [l0, l1] (vi y :: vi x :: st) M Q = (if x = y then WP d 186 32 [l0, l1] (st) M Q else WP d 186 11 [l0, l1] (st) M Q) := w_ic_eq mC_186 d186_8 (by decide)
theorem d186_11 : decode cX12_nearer 11 = .ok (.iload_n 0, 1) := by decide +kernel
theorem k186_11 {d : Nat} {x : Int32} {l1 : Option PV} {st : List PV} {M : Mem} {Q : Option PV → Mem → Prop} : WP d 186 11 [some (vi x), l1] (st) M Q = WP d 186 12 [some (vi x), l1] (vi x :: st) M Q := w1 mC_186 d186_11 rfl rfl
theorem d186_12 : decode cX12_nearer 12 = .ok (.bipush 6, 2) := by decide +kernel
theorem k186_12 {d : Nat} {l0 l1 : Option PV} {st : List PV} {M : Mem} {Q : Option PV → Mem → Prop} : WP d 186 12 [l0, l1] (st) M Q = WP d 186 14 [l0, l1] (vi 6 :: st) M Q := w_bipush mC_186 d186_12 (by decide)
theorem d186_14 : decode cX12_nearer 14 = .ok (.irem, 1) := by decide +kernel
theorem k186_14 {d : Nat} {l0 l1 : Option PV} {st : List PV} {M : Mem} {Q : Option PV → Mem → Prop} {x y : Int32} (h : y ≠ 0) : WP d 186 14 [l0, l1] (vi y :: vi x :: st) M Q = WP d 186 15 [l0, l1] (vi (x % y) :: st) M Q := w_rem mC_186 d186_14 h
theorem d186_15 : decode cX12_nearer 15 = .ok (.iload_n 1, 1) := by decide +kernel
theorem k186_15 {d : Nat} {x : Int32} {l0 : Option PV} {st : List PV} {M : Mem} {Q : Option PV → Mem → Prop} : WP d 186 15 [l0, some (vi x)] (st) M Q = WP d 186 16 [l0, some (vi x)] (vi x :: st) M Q := w1 mC_186 d186_15 rfl rfl
theorem d186_16 : decode cX12_nearer 16 = .ok (.bipush 6, 2) := by decide +kernel
theorem k186_16 {d : Nat} {l0 l1 : Option PV} {st : List PV} {M : Mem} {Q : Option PV → Mem → Prop} : WP d 186 16 [l0, l1] (st) M Q = WP d 186 18 [l0, l1] (vi 6 :: st) M Q := w_bipush mC_186 d186_16 (by decide)
theorem d186_18 : decode cX12_nearer 18 = .ok (.irem, 1) := by decide +kernel
theorem k186_18 {d : Nat} {l0 l1 : Option PV} {st : List PV} {M : Mem} {Q : Option PV → Mem → Prop} {x y : Int32} (h : y ≠ 0) : WP d 186 18 [l0, l1] (vi y :: vi x :: st) M Q = WP d 186 19 [l0, l1] (vi (x % y) :: st) M Q := w_rem mC_186 d186_18 h
theorem d186_19 : decode cX12_nearer 19 = .ok (.if_icmp .ge 9, 3) := by decide +kernel
theorem k186_19 {d : Nat} {l0 l1 : Option PV} {st : List PV} {M : Mem} {Q : Option PV → Mem → Prop} {x y : Int32} : WP d 186 19 [l0, l1] (vi y :: vi x :: st) M Q = (if y ≤ x then WP d 186 28 [l0, l1] (st) M Q else WP d 186 22 [l0, l1] (st) M Q) := w_ic_ge mC_186 d186_19 (by decide)
theorem d186_22 : decode cX12_nearer 22 = .ok (.iload_n 0, 1) := by decide +kernel
theorem k186_22 {d : Nat} {x : Int32} {l1 : Option PV} {st : List PV} {M : Mem} {Q : Option PV → Mem → Prop} : WP d 186 22 [some (vi x), l1] (st) M Q = WP d 186 23 [some (vi x), l1] (vi x :: st) M Q := w1 mC_186 d186_22 rfl rfl
theorem d186_23 : decode cX12_nearer 23 = .ok (.iconst 1, 1) := by decide +kernel
theorem k186_23 {d : Nat} {l0 l1 : Option PV} {st : List PV} {M : Mem} {Q : Option PV → Mem → Prop} : WP d 186 23 [l0, l1] (st) M Q = WP d 186 24 [l0, l1] (vi 1 :: st) M Q := w_iconst mC_186 d186_23 (by decide)
theorem d186_24 : decode cX12_nearer 24 = .ok (.iadd, 1) := by decide +kernel
theorem k186_24 {d : Nat} {l0 l1 : Option PV} {st : List PV} {M : Mem} {Q : Option PV → Mem → Prop} {x y : Int32} : WP d 186 24 [l0, l1] (vi y :: vi x :: st) M Q = WP d 186 25 [l0, l1] (vi (x + y) :: st) M Q := w1 mC_186 d186_24 rfl rfl
theorem d186_25 : decode cX12_nearer 25 = .ok (.goto 6, 3) := by decide +kernel
theorem k186_25 {d : Nat} {l0 l1 : Option PV} {st : List PV} {M : Mem} {Q : Option PV → Mem → Prop} : WP d 186 25 [l0, l1] (st) M Q = WP d 186 31 [l0, l1] (st) M Q := w_goto mC_186 d186_25 (by decide)
theorem d186_28 : decode cX12_nearer 28 = .ok (.iload_n 0, 1) := by decide +kernel
theorem k186_28 {d : Nat} {x : Int32} {l1 : Option PV} {st : List PV} {M : Mem} {Q : Option PV → Mem → Prop} : WP d 186 28 [some (vi x), l1] (st) M Q = WP d 186 29 [some (vi x), l1] (vi x :: st) M Q := w1 mC_186 d186_28 rfl rfl
theorem d186_29 : decode cX12_nearer 29 = .ok (.iconst 1, 1) := by decide +kernel
theorem k186_29 {d : Nat} {l0 l1 : Option PV} {st : List PV} {M : Mem} {Q : Option PV → Mem → Prop} : WP d 186 29 [l0, l1] (st) M Q = WP d 186 30 [l0, l1] (vi 1 :: st) M Q := w_iconst mC_186 d186_29 (by decide)
theorem d186_30 : decode cX12_nearer 30 = .ok (.isub, 1) := by decide +kernel
theorem k186_30 {d : Nat} {l0 l1 : Option PV} {st : List PV} {M : Mem} {Q : Option PV → Mem → Prop} {x y : Int32} : WP d 186 30 [l0, l1] (vi y :: vi x :: st) M Q = WP d 186 31 [l0, l1] (vi (x - y) :: st) M Q := w1 mC_186 d186_30 rfl rfl
theorem d186_31 : decode cX12_nearer 31 = .ok (.ireturn, 1) := by decide +kernel
theorem k186_31 {d : Nat} {l0 l1 : Option PV} {M : Mem} {Q : Option PV → Mem → Prop} {x : Int32} : WP d 186 31 [l0, l1] ([vi x]) M Q = Q (some (vi x)) M := w_iret mC_186 d186_31 rfl
theorem d186_32 : decode cX12_nearer 32 = .ok (.iload_n 0, 1) := by decide +kernel
theorem k186_32 {d : Nat} {x : Int32} {l1 : Option PV} {st : List PV} {M : Mem} {Q : Option PV → Mem → Prop} : WP d 186 32 [some (vi x), l1] (st) M Q = WP d 186 33 [some (vi x), l1] (vi x :: st) M Q := w1 mC_186 d186_32 rfl rfl
theorem d186_33 : decode cX12_nearer 33 = .ok (.iload_n 1, 1) := by decide +kernel
theorem k186_33 {d : Nat} {x : Int32} {l0 : Option PV} {st : List PV} {M : Mem} {Q : Option PV → Mem → Prop} : WP d 186 33 [l0, some (vi x)] (st) M Q = WP d 186 34 [l0, some (vi x)] (vi x :: st) M Q := w1 mC_186 d186_33 rfl rfl
theorem d186_34 : decode cX12_nearer 34 = .ok (.if_icmp .ge 10, 3) := by decide +kernel
theorem k186_34 {d : Nat} {l0 l1 : Option PV} {st : List PV} {M : Mem} {Q : Option PV → Mem → Prop} {x y : Int32} : WP d 186 34 [l0, l1] (vi y :: vi x :: st) M Q = (if y ≤ x then WP d 186 44 [l0, l1] (st) M Q else WP d 186 37 [l0, l1] (st) M Q) := w_ic_ge mC_186 d186_34 (by decide)
theorem d186_37 : decode cX12_nearer 37 = .ok (.iload_n 0, 1) := by decide +kernel
theorem k186_37 {d : Nat} {x : Int32} {l1 : Option PV} {st : List PV} {M : Mem} {Q : Option PV → Mem → Prop} : WP d 186 37 [some (vi x), l1] (st) M Q = WP d 186 38 [some (vi x), l1] (vi x :: st) M Q := w1 mC_186 d186_37 rfl rfl
theorem d186_38 : decode cX12_nearer 38 = .ok (.bipush 6, 2) := by decide +kernel
theorem k186_38 {d : Nat} {l0 l1 : Option PV} {st : List PV} {M : Mem} {Q : Option PV → Mem → Prop} : WP d 186 38 [l0, l1] (st) M Q = WP d 186 40 [l0, l1] (vi 6 :: st) M Q := w_bipush mC_186 d186_38 (by decide)
theorem d186_40 : decode cX12_nearer 40 = .ok (.iadd, 1) := by decide +kernel
theorem k186_40 {d : Nat} {l0 l1 : Option PV} {st : List PV} {M : Mem} {Q : Option PV → Mem → Prop} {x y : Int32} : WP d 186 40 [l0, l1] (vi y :: vi x :: st) M Q = WP d 186 41 [l0, l1] (vi (x + y) :: st) M Q := w1 mC_186 d186_40 rfl rfl
theorem d186_41 : decode cX12_nearer 41 = .ok (.goto 16, 3) := by decide +kernel
theorem k186_41 {d : Nat} {l0 l1 : Option PV} {st : List PV} {M : Mem} {Q : Option PV → Mem → Prop} : WP d 186 41 [l0, l1] (st) M Q = WP d 186 57 [l0, l1] (st) M Q := w_goto mC_186 d186_41 (by decide)
theorem d186_44 : decode cX12_nearer 44 = .ok (.iload_n 0, 1) := by decide +kernel
theorem k186_44 {d : Nat} {x : Int32} {l1 : Option PV} {st : List PV} {M : Mem} {Q : Option PV → Mem → Prop} : WP d 186 44 [some (vi x), l1] (st) M Q = WP d 186 45 [some (vi x), l1] (vi x :: st) M Q := w1 mC_186 d186_44 rfl rfl
theorem d186_45 : decode cX12_nearer 45 = .ok (.iload_n 1, 1) := by decide +kernel
theorem k186_45 {d : Nat} {x : Int32} {l0 : Option PV} {st : List PV} {M : Mem} {Q : Option PV → Mem → Prop} : WP d 186 45 [l0, some (vi x)] (st) M Q = WP d 186 46 [l0, some (vi x)] (vi x :: st) M Q := w1 mC_186 d186_45 rfl rfl
theorem d186_46 : decode cX12_nearer 46 = .ok (.if_icmp .le 10, 3) := by decide +kernel
theorem k186_46 {d : Nat} {l0 l1 : Option PV} {st : List PV} {M : Mem} {Q : Option PV → Mem → Prop} {x y : Int32} : WP d 186 46 [l0, l1] (vi y :: vi x :: st) M Q = (if x ≤ y then WP d 186 56 [l0, l1] (st) M Q else WP d 186 49 [l0, l1] (st) M Q) := w_ic_le mC_186 d186_46 (by decide)
theorem d186_49 : decode cX12_nearer 49 = .ok (.iload_n 0, 1) := by decide +kernel
theorem k186_49 {d : Nat} {x : Int32} {l1 : Option PV} {st : List PV} {M : Mem} {Q : Option PV → Mem → Prop} : WP d 186 49 [some (vi x), l1] (st) M Q = WP d 186 50 [some (vi x), l1] (vi x :: st) M Q := w1 mC_186 d186_49 rfl rfl
theorem d186_50 : decode cX12_nearer 50 = .ok (.bipush 6, 2) := by decide +kernel
theorem k186_50 {d : Nat} {l0 l1 : Option PV} {st : List PV} {M : Mem} {Q : Option PV → Mem → Prop} : WP d 186 50 [l0, l1] (st) M Q = WP d 186 52 [l0, l1] (vi 6 :: st) M Q := w_bipush mC_186 d186_50 (by decide)
theorem d186_52 : decode cX12_nearer 52 = .ok (.isub, 1) := by decide +kernel
theorem k186_52 {d : Nat} {l0 l1 : Option PV} {st : List PV} {M : Mem} {Q : Option PV → Mem → Prop} {x y : Int32} : WP d 186 52 [l0, l1] (vi y :: vi x :: st) M Q = WP d 186 53 [l0, l1] (vi (x - y) :: st) M Q := w1 mC_186 d186_52 rfl rfl
theorem d186_53 : decode cX12_nearer 53 = .ok (.goto 4, 3) := by decide +kernel
theorem k186_53 {d : Nat} {l0 l1 : Option PV} {st : List PV} {M : Mem} {Q : Option PV → Mem → Prop} : WP d 186 53 [l0, l1] (st) M Q = WP d 186 57 [l0, l1] (st) M Q := w_goto mC_186 d186_53 (by decide)
theorem d186_56 : decode cX12_nearer 56 = .ok (.iload_n 0, 1) := by decide +kernel
theorem k186_56 {d : Nat} {x : Int32} {l1 : Option PV} {st : List PV} {M : Mem} {Q : Option PV → Mem → Prop} : WP d 186 56 [some (vi x), l1] (st) M Q = WP d 186 57 [some (vi x), l1] (vi x :: st) M Q := w1 mC_186 d186_56 rfl rfl
theorem d186_57 : decode cX12_nearer 57 = .ok (.ireturn, 1) := by decide +kernel
theorem k186_57 {d : Nat} {l0 l1 : Option PV} {M : Mem} {Q : Option PV → Mem → Prop} {x : Int32} : WP d 186 57 [l0, l1] ([vi x]) M Q = Q (some (vi x)) M := w_iret mC_186 d186_57 rfl
theorem d187_0 : decode cX12_goes 0 = .ok (.aload_n 0, 1) := by decide +kernel
theorem k187_0 {d x : Nat} {l1 l2 l3 : Option PV} {st : List PV} {M : Mem} {Q : Option PV → Mem → Prop} : WP d 187 0 [some (vr x), l1, l2, l3] (st) M Q = WP d 187 1 [some (vr x), l1, l2, l3] (vr x :: st) M Q := w1 mC_187 d187_0 rfl rfl
theorem d187_1 : decode cX12_goes 1 = .ok (.iload_n 1, 1) := by decide +kernel
theorem k187_1 {d : Nat} {x : Int32} {l0 l2 l3 : Option PV} {st : List PV} {M : Mem} {Q : Option PV → Mem → Prop} : WP d 187 1 [l0, some (vi x), l2, l3] (st) M Q = WP d 187 2 [l0, some (vi x), l2, l3] (vi x :: st) M Q := w1 mC_187 d187_1 rfl rfl
theorem d187_2 : decode cX12_goes 2 = .ok (.invokevirtual 231, 3) := by decide +kernel
theorem k187_2 {d : Nat} {l0 l1 l2 l3 : Option PV} {st : List PV} {M : Mem} {Q : Option PV → Mem → Prop} {a0 : Int32} {r : Nat} (hl : szL st ≤ 8) (hk : mK M r = 12) : WP (d + 1) 187 2 [l0, l1, l2, l3] (vi a0 :: vr r :: st) M Q = WP d 181 0 [some (vr r), some (vi a0)] [] M (fun v M' => WP (d + 1) 187 5 [l0, l1, l2, l3] (psh v st) M' Q) := w_callV mC_187 d187_2 (ci := 12) rfl rfl rfl (Nat.le_of_ble_eq_true rfl) (by decide) rfl hl hk
theorem d187_5 : decode cX12_goes 5 = .ok (.istore_n 2, 1) := by decide +kernel
theorem k187_5 {d : Nat} {l0 l1 l2 l3 : Option PV} {st : List PV} {M : Mem} {Q : Option PV → Mem → Prop} {x : Int32} : WP d 187 5 [l0, l1, l2, l3] (vi x :: st) M Q = WP d 187 6 [l0, l1, some (vi x), l3] (st) M Q := w1 mC_187 d187_5 rfl rfl
theorem d187_6 : decode cX12_goes 6 = .ok (.aload_n 0, 1) := by decide +kernel
theorem k187_6 {d x : Nat} {l1 l2 l3 : Option PV} {st : List PV} {M : Mem} {Q : Option PV → Mem → Prop} : WP d 187 6 [some (vr x), l1, l2, l3] (st) M Q = WP d 187 7 [some (vr x), l1, l2, l3] (vr x :: st) M Q := w1 mC_187 d187_6 rfl rfl
theorem d187_7 : decode cX12_goes 7 = .ok (.iload_n 1, 1) := by decide +kernel
theorem k187_7 {d : Nat} {x : Int32} {l0 l2 l3 : Option PV} {st : List PV} {M : Mem} {Q : Option PV → Mem → Prop} : WP d 187 7 [l0, some (vi x), l2, l3] (st) M Q = WP d 187 8 [l0, some (vi x), l2, l3] (vi x :: st) M Q := w1 mC_187 d187_7 rfl rfl
theorem d187_8 : decode cX12_goes 8 = .ok (.invokevirtual 249, 3) := by decide +kernel
theorem k187_8 {d : Nat} {l0 l1 l2 l3 : Option PV} {st : List PV} {M : Mem} {Q : Option PV → Mem → Prop} {a0 : Int32} {r : Nat} (hl : szL st ≤ 8) (hk : mK M r = 12) : WP (d + 1) 187 8 [l0, l1, l2, l3] (vi a0 :: vr r :: st) M Q = WP d 184 0 [some (vr r), some (vi a0), none] [] M (fun v M' => WP (d + 1) 187 11 [l0, l1, l2, l3] (psh v st) M' Q) := w_callV mC_187 d187_8 (ci := 12) rfl rfl rfl (Nat.le_of_ble_eq_true rfl) (by decide) rfl hl hk
theorem d187_11 : decode cX12_goes 11 = .ok (.istore_n 3, 1) := by decide +kernel
theorem k187_11 {d : Nat} {l0 l1 l2 l3 : Option PV} {st : List PV} {M : Mem} {Q : Option PV → Mem → Prop} {x : Int32} : WP d 187 11 [l0, l1, l2, l3] (vi x :: st) M Q = WP d 187 12 [l0, l1, l2, some (vi x)] (st) M Q := w1 mC_187 d187_11 rfl rfl
theorem d187_12 : decode cX12_goes 12 = .ok (.aload_n 0, 1) := by decide +kernel
theorem k187_12 {d x : Nat} {l1 l2 l3 : Option PV} {st : List PV} {M : Mem} {Q : Option PV → Mem → Prop} : WP d 187 12 [some (vr x), l1, l2, l3] (st) M Q = WP d 187 13 [some (vr x), l1, l2, l3] (vr x :: st) M Q := w1 mC_187 d187_12 rfl rfl
theorem d187_13 : decode cX12_goes 13 = .ok (.dup, 1) := by decide +kernel
theorem k187_13 {d : Nat} {l0 l1 l2 l3 : Option PV} {st : List PV} {M : Mem} {Q : Option PV → Mem → Prop} {x : Nat} : WP d 187 13 [l0, l1, l2, l3] (vr x :: st) M Q = WP d 187 14 [l0, l1, l2, l3] (vr x :: vr x :: st) M Q := w1 mC_187 d187_13 rfl rfl
theorem k187_13i {d : Nat} {l0 l1 l2 l3 : Option PV} {st : List PV} {M : Mem} {Q : Option PV → Mem → Prop} {x : Int32} : WP d 187 13 [l0, l1, l2, l3] (vi x :: st) M Q = WP d 187 14 [l0, l1, l2, l3] (vi x :: vi x :: st) M Q := w1 mC_187 d187_13 rfl rfl
theorem d187_14 : decode cX12_goes 14 = .ok (.getfield 252, 3) := by decide +kernel
theorem k187_14 {d : Nat} {l0 l1 l2 l3 : Option PV} {st : List PV} {M : Mem} {Q : Option PV → Mem → Prop} {r : Nat} (hk : mK M r = 12) : WP d 187 14 [l0, l1, l2, l3] (vr r :: st) M Q = WP d 187 17 [l0, l1, l2, l3] (vi (mI M r 38) :: st) M Q := w_get mC_187 d187_14 fE_12_252 rfl (by rw [hk]; rfl)
theorem d187_17 : decode cX12_goes 17 = .ok (.iload_n 3, 1) := by decide +kernel
theorem k187_17 {d : Nat} {x : Int32} {l0 l1 l2 : Option PV} {st : List PV} {M : Mem} {Q : Option PV → Mem → Prop} : WP d 187 17 [l0, l1, l2, some (vi x)] (st) M Q = WP d 187 18 [l0, l1, l2, some (vi x)] (vi x :: st) M Q := w1 mC_187 d187_17 rfl rfl
theorem d187_18 : decode cX12_goes 18 = .ok (.iadd, 1) := by decide +kernel
theorem k187_18 {d : Nat} {l0 l1 l2 l3 : Option PV} {st : List PV} {M : Mem} {Q : Option PV → Mem → Prop} {x y : Int32} : WP d 187 18 [l0, l1, l2, l3] (vi y :: vi x :: st) M Q = WP d 187 19 [l0, l1, l2, l3] (vi (x + y) :: st) M Q := w1 mC_187 d187_18 rfl rfl
theorem d187_19 : decode cX12_goes 19 = .ok (.putfield 252, 3) := by decide +kernel
theorem k187_19 {d : Nat} {l0 l1 l2 l3 : Option PV} {st : List PV} {M : Mem} {Q : Option PV → Mem → Prop} {r : Nat} {x : Int32} (hk : mK M r = 12) : WP d 187 19 [l0, l1, l2, l3] (vi x :: vr r :: st) M Q = WP d 187 22 [l0, l1, l2, l3] (st) (sI M r 38 x) Q := w_put mC_187 d187_19 fE_12_252 (by decide +kernel) (by rw [hk]; rfl)
theorem d187_22 : decode cX12_goes 22 = .ok (.aload_n 0, 1) := by decide +kernel
theorem k187_22 {d x : Nat} {l1 l2 l3 : Option PV} {st : List PV} {M : Mem} {Q : Option PV → Mem → Prop} : WP d 187 22 [some (vr x), l1, l2, l3] (st) M Q = WP d 187 23 [some (vr x), l1, l2, l3] (vr x :: st) M Q := w1 mC_187 d187_22 rfl rfl
theorem d187_23 : decode cX12_goes 23 = .ok (.getfield 9, 3) := by decide +kernel
theorem k187_23 {d : Nat} {l0 l1 l2 l3 : Option PV} {st : List PV} {M : Mem} {Q : Option PV → Mem → Prop} {r : Nat} (hk : mK M r = 12) : WP d 187 23 [l0, l1, l2, l3] (vr r :: st) M Q = WP d 187 26 [l0, l1, l2, l3] (vr (mR M r 2) :: st) M Q := w_getr mC_187 d187_23 fE_12_9 rfl (by rw [hk]; rfl)
theorem d187_26 : decode cX12_goes 26 = .ok (.bipush 40, 2) := by decide +kernel
theorem k187_26 {d : Nat} {l0 l1 l2 l3 : Option PV} {st : List PV} {M : Mem} {Q : Option PV → Mem → Prop} : WP d 187 26 [l0, l1, l2, l3] (st) M Q = WP d 187 28 [l0, l1, l2, l3] (vi 40 :: st) M Q := w_bipush mC_187 d187_26 (by decide)
theorem d187_28 : decode cX12_goes 28 = .ok (.iload_n 1, 1) := by decide +kernel
theorem k187_28 {d : Nat} {x : Int32} {l0 l2 l3 : Option PV} {st : List PV} {M : Mem} {Q : Option PV → Mem → Prop} : WP d 187 28 [l0, some (vi x), l2, l3] (st) M Q = WP d 187 29 [l0, some (vi x), l2, l3] (vi x :: st) M Q := w1 mC_187 d187_28 rfl rfl
theorem d187_29 : decode cX12_goes 29 = .ok (.iadd, 1) := by decide +kernel
theorem k187_29 {d : Nat} {l0 l1 l2 l3 : Option PV} {st : List PV} {M : Mem} {Q : Option PV → Mem → Prop} {x y : Int32} : WP d 187 29 [l0, l1, l2, l3] (vi y :: vi x :: st) M Q = WP d 187 30 [l0, l1, l2, l3] (vi (x + y) :: st) M Q := w1 mC_187 d187_29 rfl rfl
theorem d187_30 : decode cX12_goes 30 = .ok (.dup2, 1) := by decide +kernel
theorem k187_30 {d : Nat} {l0 l1 l2 l3 : Option PV} {st : List PV} {M : Mem} {Q : Option PV → Mem → Prop} {a : Int32} {b : Nat} : WP d 187 30 [l0, l1, l2, l3] (vi a :: vr b :: st) M Q = WP d 187 31 [l0, l1, l2, l3] (vi a :: vr b :: vi a :: vr b :: st) M Q := w1 mC_187 d187_30 rfl rfl
theorem d187_31 : decode cX12_goes 31 = .ok (.iaload, 1) := by decide +kernel
theorem k187_31 {d : Nat} {l0 l1 l2 l3 : Option PV} {st : List PV} {M : Mem} {Q : Option PV → Mem → Prop} {r : Nat} {j : Int32} (hk : mK M r = 13) (hj : inb j (mN M r)) (h1 : r ≠ 1) : WP d 187 31 [l0, l1, l2, l3] (vi j :: vr r :: st) M Q = WP d 187 32 [l0, l1, l2, l3] (vi (mI M r (ix j)) :: st) M Q := w_iald mC_187 d187_31 (by decide) hk hj h1
theorem d187_32 : decode cX12_goes 32 = .ok (.iload_n 3, 1) := by decide +kernel
theorem k187_32 {d : Nat} {x : Int32} {l0 l1 l2 : Option PV} {st : List PV} {M : Mem} {Q : Option PV → Mem → Prop} : WP d 187 32 [l0, l1, l2, some (vi x)] (st) M Q = WP d 187 33 [l0, l1, l2, some (vi x)] (vi x :: st) M Q := w1 mC_187 d187_32 rfl rfl
theorem d187_33 : decode cX12_goes 33 = .ok (.isub, 1) := by decide +kernel
theorem k187_33 {d : Nat} {l0 l1 l2 l3 : Option PV} {st : List PV} {M : Mem} {Q : Option PV → Mem → Prop} {x y : Int32} : WP d 187 33 [l0, l1, l2, l3] (vi y :: vi x :: st) M Q = WP d 187 34 [l0, l1, l2, l3] (vi (x - y) :: st) M Q := w1 mC_187 d187_33 rfl rfl
theorem d187_34 : decode cX12_goes 34 = .ok (.iastore, 1) := by decide +kernel
theorem k187_34 {d : Nat} {l0 l1 l2 l3 : Option PV} {st : List PV} {M : Mem} {Q : Option PV → Mem → Prop} {r : Nat} {j x : Int32} (hk : mK M r = 13) (hj : inb j (mN M r)) (h1 : r ≠ 1) : WP d 187 34 [l0, l1, l2, l3] (vi x :: vi j :: vr r :: st) M Q = WP d 187 35 [l0, l1, l2, l3] (st) (sI M r (ix j) x) Q := w_iast mC_187 d187_34 hk hj h1
theorem d187_35 : decode cX12_goes 35 = .ok (.aload_n 0, 1) := by decide +kernel
theorem k187_35 {d x : Nat} {l1 l2 l3 : Option PV} {st : List PV} {M : Mem} {Q : Option PV → Mem → Prop} : WP d 187 35 [some (vr x), l1, l2, l3] (st) M Q = WP d 187 36 [some (vr x), l1, l2, l3] (vr x :: st) M Q := w1 mC_187 d187_35 rfl rfl
theorem d187_36 : decode cX12_goes 36 = .ok (.getfield 15, 3) := by decide +kernel
theorem k187_36 {d : Nat} {l0 l1 l2 l3 : Option PV} {st : List PV} {M : Mem} {Q : Option PV → Mem → Prop} {r : Nat} (hk : mK M r = 12) : WP d 187 36 [l0, l1, l2, l3] (vr r :: st) M Q = WP d 187 39 [l0, l1, l2, l3] (vr (mR M r 3) :: st) M Q := w_getr mC_187 d187_36 fE_12_15 rfl (by rw [hk]; rfl)
theorem d187_39 : decode cX12_goes 39 = .ok (.iconst 1, 1) := by decide +kernel
theorem k187_39 {d : Nat} {l0 l1 l2 l3 : Option PV} {st : List PV} {M : Mem} {Q : Option PV → Mem → Prop} : WP d 187 39 [l0, l1, l2, l3] (st) M Q = WP d 187 40 [l0, l1, l2, l3] (vi 1 :: st) M Q := w_iconst mC_187 d187_39 (by decide)
theorem d187_40 : decode cX12_goes 40 = .ok (.iaload, 1) := by decide +kernel
theorem k187_40 {d : Nat} {l0 l1 l2 l3 : Option PV} {st : List PV} {M : Mem} {Q : Option PV → Mem → Prop} {r : Nat} {j : Int32} (hk : mK M r = 13) (hj : inb j (mN M r)) (h1 : r ≠ 1) : WP d 187 40 [l0, l1, l2, l3] (vi j :: vr r :: st) M Q = WP d 187 41 [l0, l1, l2, l3] (vi (mI M r (ix j)) :: st) M Q := w_iald mC_187 d187_40 (by decide) hk hj h1
theorem d187_41 : decode cX12_goes 41 = .ok (.aload_n 0, 1) := by decide +kernel
theorem k187_41 {d x : Nat} {l1 l2 l3 : Option PV} {st : List PV} {M : Mem} {Q : Option PV → Mem → Prop} : WP d 187 41 [some (vr x), l1, l2, l3] (st) M Q = WP d 187 42 [some (vr x), l1, l2, l3] (vr x :: st) M Q := w1 mC_187 d187_41 rfl rfl
theorem d187_42 : decode cX12_goes 42 = .ok (.getfield 15, 3) := by decide +kernel
theorem k187_42 {d : Nat} {l0 l1 l2 l3 : Option PV} {st : List PV} {M : Mem} {Q : Option PV → Mem → Prop} {r : Nat} (hk : mK M r = 12) : WP d 187 42 [l0, l1, l2, l3] (vr r :: st) M Q = WP d 187 45 [l0, l1, l2, l3] (vr (mR M r 3) :: st) M Q := w_getr mC_187 d187_42 fE_12_15 rfl (by rw [hk]; rfl)
theorem d187_45 : decode cX12_goes 45 = .ok (.iconst 0, 1) := by decide +kernel
theorem k187_45 {d : Nat} {l0 l1 l2 l3 : Option PV} {st : List PV} {M : Mem} {Q : Option PV → Mem → Prop} : WP d 187 45 [l0, l1, l2, l3] (st) M Q = WP d 187 46 [l0, l1, l2, l3] (vi 0 :: st) M Q := w_iconst mC_187 d187_45 (by decide)
theorem d187_46 : decode cX12_goes 46 = .ok (.iaload, 1) := by decide +kernel
theorem k187_46 {d : Nat} {l0 l1 l2 l3 : Option PV} {st : List PV} {M : Mem} {Q : Option PV → Mem → Prop} {r : Nat} {j : Int32} (hk : mK M r = 13) (hj : inb j (mN M r)) (h1 : r ≠ 1) : WP d 187 46 [l0, l1, l2, l3] (vi j :: vr r :: st) M Q = WP d 187 47 [l0, l1, l2, l3] (vi (mI M r (ix j)) :: st) M Q := w_iald mC_187 d187_46 (by decide) hk hj h1
theorem d187_47 : decode cX12_goes 47 = .ok (.if_icmp .ge 4, 3) := by decide +kernel
theorem k187_47 {d : Nat} {l0 l1 l2 l3 : Option PV} {st : List PV} {M : Mem} {Q : Option PV → Mem → Prop} {x y : Int32} : WP d 187 47 [l0, l1, l2, l3] (vi y :: vi x :: st) M Q = (if y ≤ x then WP d 187 51 [l0, l1, l2, l3] (st) M Q else WP d 187 50 [l0, l1, l2, l3] (st) M Q) := w_ic_ge mC_187 d187_47 (by decide)
theorem d187_50 : decode cX12_goes 50 = .ok (.return_, 1) := by decide +kernel
theorem k187_50 {d : Nat} {l0 l1 l2 l3 : Option PV} {M : Mem} {Q : Option PV → Mem → Prop} : WP d 187 50 [l0, l1, l2, l3] ([]) M Q = Q none M := w_vret mC_187 d187_50 rfl
theorem d187_51 : decode cX12_goes 51 = .ok (.aload_n 0, 1) := by decide +kernel
theorem k187_51 {d x : Nat} {l1 l2 l3 : Option PV} {st : List PV} {M : Mem} {Q : Option PV → Mem → Prop} : WP d 187 51 [some (vr x), l1, l2, l3] (st) M Q = WP d 187 52 [some (vr x), l1, l2, l3] (vr x :: st) M Q := w1 mC_187 d187_51 rfl rfl
theorem d187_52 : decode cX12_goes 52 = .ok (.getfield 9, 3) := by decide +kernel
theorem k187_52 {d : Nat} {l0 l1 l2 l3 : Option PV} {st : List PV} {M : Mem} {Q : Option PV → Mem → Prop} {r : Nat} (hk : mK M r = 12) : WP d 187 52 [l0, l1, l2, l3] (vr r :: st) M Q = WP d 187 55 [l0, l1, l2, l3] (vr (mR M r 2) :: st) M Q := w_getr mC_187 d187_52 fE_12_9 rfl (by rw [hk]; rfl)
theorem d187_55 : decode cX12_goes 55 = .ok (.bipush 16, 2) := by decide +kernel
theorem k187_55 {d : Nat} {l0 l1 l2 l3 : Option PV} {st : List PV} {M : Mem} {Q : Option PV → Mem → Prop} : WP d 187 55 [l0, l1, l2, l3] (st) M Q = WP d 187 57 [l0, l1, l2, l3] (vi 16 :: st) M Q := w_bipush mC_187 d187_55 (by decide)
theorem d187_57 : decode cX12_goes 57 = .ok (.iload_n 1, 1) := by decide +kernel
theorem k187_57 {d : Nat} {x : Int32} {l0 l2 l3 : Option PV} {st : List PV} {M : Mem} {Q : Option PV → Mem → Prop} : WP d 187 57 [l0, some (vi x), l2, l3] (st) M Q = WP d 187 58 [l0, some (vi x), l2, l3] (vi x :: st) M Q := w1 mC_187 d187_57 rfl rfl
theorem d187_58 : decode cX12_goes 58 = .ok (.iadd, 1) := by decide +kernel
theorem k187_58 {d : Nat} {l0 l1 l2 l3 : Option PV} {st : List PV} {M : Mem} {Q : Option PV → Mem → Prop} {x y : Int32} : WP d 187 58 [l0, l1, l2, l3] (vi y :: vi x :: st) M Q = WP d 187 59 [l0, l1, l2, l3] (vi (x + y) :: st) M Q := w1 mC_187 d187_58 rfl rfl
theorem d187_59 : decode cX12_goes 59 = .ok (.aload_n 0, 1) := by decide +kernel
theorem k187_59 {d x : Nat} {l1 l2 l3 : Option PV} {st : List PV} {M : Mem} {Q : Option PV → Mem → Prop} : WP d 187 59 [some (vr x), l1, l2, l3] (st) M Q = WP d 187 60 [some (vr x), l1, l2, l3] (vr x :: st) M Q := w1 mC_187 d187_59 rfl rfl
theorem d187_60 : decode cX12_goes 60 = .ok (.getfield 9, 3) := by decide +kernel
theorem k187_60 {d : Nat} {l0 l1 l2 l3 : Option PV} {st : List PV} {M : Mem} {Q : Option PV → Mem → Prop} {r : Nat} (hk : mK M r = 12) : WP d 187 60 [l0, l1, l2, l3] (vr r :: st) M Q = WP d 187 63 [l0, l1, l2, l3] (vr (mR M r 2) :: st) M Q := w_getr mC_187 d187_60 fE_12_9 rfl (by rw [hk]; rfl)
theorem d187_63 : decode cX12_goes 63 = .ok (.bipush 16, 2) := by decide +kernel
theorem k187_63 {d : Nat} {l0 l1 l2 l3 : Option PV} {st : List PV} {M : Mem} {Q : Option PV → Mem → Prop} : WP d 187 63 [l0, l1, l2, l3] (st) M Q = WP d 187 65 [l0, l1, l2, l3] (vi 16 :: st) M Q := w_bipush mC_187 d187_63 (by decide)
theorem d187_65 : decode cX12_goes 65 = .ok (.iload_n 1, 1) := by decide +kernel
theorem k187_65 {d : Nat} {x : Int32} {l0 l2 l3 : Option PV} {st : List PV} {M : Mem} {Q : Option PV → Mem → Prop} : WP d 187 65 [l0, some (vi x), l2, l3] (st) M Q = WP d 187 66 [l0, some (vi x), l2, l3] (vi x :: st) M Q := w1 mC_187 d187_65 rfl rfl
theorem d187_66 : decode cX12_goes 66 = .ok (.iadd, 1) := by decide +kernel
theorem k187_66 {d : Nat} {l0 l1 l2 l3 : Option PV} {st : List PV} {M : Mem} {Q : Option PV → Mem → Prop} {x y : Int32} : WP d 187 66 [l0, l1, l2, l3] (vi y :: vi x :: st) M Q = WP d 187 67 [l0, l1, l2, l3] (vi (x + y) :: st) M Q := w1 mC_187 d187_66 rfl rfl
theorem d187_67 : decode cX12_goes 67 = .ok (.iaload, 1) := by decide +kernel
theorem k187_67 {d : Nat} {l0 l1 l2 l3 : Option PV} {st : List PV} {M : Mem} {Q : Option PV → Mem → Prop} {r : Nat} {j : Int32} (hk : mK M r = 13) (hj : inb j (mN M r)) (h1 : r ≠ 1) : WP d 187 67 [l0, l1, l2, l3] (vi j :: vr r :: st) M Q = WP d 187 68 [l0, l1, l2, l3] (vi (mI M r (ix j)) :: st) M Q := w_iald mC_187 d187_67 (by decide) hk hj h1
theorem d187_68 : decode cX12_goes 68 = .ok (.aload_n 0, 1) := by decide +kernel
theorem k187_68 {d x : Nat} {l1 l2 l3 : Option PV} {st : List PV} {M : Mem} {Q : Option PV → Mem → Prop} : WP d 187 68 [some (vr x), l1, l2, l3] (st) M Q = WP d 187 69 [some (vr x), l1, l2, l3] (vr x :: st) M Q := w1 mC_187 d187_68 rfl rfl
theorem d187_69 : decode cX12_goes 69 = .ok (.getfield 9, 3) := by decide +kernel
theorem k187_69 {d : Nat} {l0 l1 l2 l3 : Option PV} {st : List PV} {M : Mem} {Q : Option PV → Mem → Prop} {r : Nat} (hk : mK M r = 12) : WP d 187 69 [l0, l1, l2, l3] (vr r :: st) M Q = WP d 187 72 [l0, l1, l2, l3] (vr (mR M r 2) :: st) M Q := w_getr mC_187 d187_69 fE_12_9 rfl (by rw [hk]; rfl)
theorem d187_72 : decode cX12_goes 72 = .ok (.iload_n 2, 1) := by decide +kernel
theorem k187_72 {d : Nat} {x : Int32} {l0 l1 l3 : Option PV} {st : List PV} {M : Mem} {Q : Option PV → Mem → Prop} : WP d 187 72 [l0, l1, some (vi x), l3] (st) M Q = WP d 187 73 [l0, l1, some (vi x), l3] (vi x :: st) M Q := w1 mC_187 d187_72 rfl rfl
theorem d187_73 : decode cX12_goes 73 = .ok (.iaload, 1) := by decide +kernel
theorem k187_73 {d : Nat} {l0 l1 l2 l3 : Option PV} {st : List PV} {M : Mem} {Q : Option PV → Mem → Prop} {r : Nat} {j : Int32} (hk : mK M r = 13) (hj : inb j (mN M r)) (h1 : r ≠ 1) : WP d 187 73 [l0, l1, l2, l3] (vi j :: vr r :: st) M Q = WP d 187 74 [l0, l1, l2, l3] (vi (mI M r (ix j)) :: st) M Q := w_iald mC_187 d187_73 (by decide) hk hj h1
theorem d187_74 : decode cX12_goes 74 = .ok (.invokestatic 255, 3) := by decide +kernel
theorem k187_74 {d : Nat} {l0 l1 l2 l3 : Option PV} {st : List PV} {M : Mem} {Q : Option PV → Mem → Prop} {a0 a1 : Int32} (hl : szL st ≤ 8) : WP (d + 1) 187 74 [l0, l1, l2, l3] (vi a1 :: vi a0 :: st) M Q = WP d 186 0 [some (vi a0), some (vi a1)] [] M (fun v M' => WP (d + 1) 187 77 [l0, l1, l2, l3] (psh v st) M' Q) := w_callS mC_187 d187_74 rfl rfl (Nat.le_of_ble_eq_true rfl) (by decide) rfl hl
theorem d187_77 : decode cX12_goes 77 = .ok (.iastore, 1) := by decide +kernel
theorem k187_77 {d : Nat} {l0 l1 l2 l3 : Option PV} {st : List PV} {M : Mem} {Q : Option PV → Mem → Prop} {r : Nat} {j x : Int32} (hk : mK M r = 13) (hj : inb j (mN M r)) (h1 : r ≠ 1) : WP d 187 77 [l0, l1, l2, l3] (vi x :: vi j :: vr r :: st) M Q = WP d 187 78 [l0, l1, l2, l3] (st) (sI M r (ix j) x) Q := w_iast mC_187 d187_77 hk hj h1
theorem d187_78 : decode cX12_goes 78 = .ok (.aload_n 0, 1) := by decide +kernel
theorem k187_78 {d x : Nat} {l1 l2 l3 : Option PV} {st : List PV} {M : Mem} {Q : Option PV → Mem → Prop} : WP d 187 78 [some (vr x), l1, l2, l3] (st) M Q = WP d 187 79 [some (vr x), l1, l2, l3] (vr x :: st) M Q := w1 mC_187 d187_78 rfl rfl
theorem d187_79 : decode cX12_goes 79 = .ok (.getfield 9, 3) := by decide +kernel
theorem k187_79 {d : Nat} {l0 l1 l2 l3 : Option PV} {st : List PV} {M : Mem} {Q : Option PV → Mem → Prop} {r : Nat} (hk : mK M r = 12) : WP d 187 79 [l0, l1, l2, l3] (vr r :: st) M Q = WP d 187 82 [l0, l1, l2, l3] (vr (mR M r 2) :: st) M Q := w_getr mC_187 d187_79 fE_12_9 rfl (by rw [hk]; rfl)
theorem d187_82 : decode cX12_goes 82 = .ok (.bipush 16, 2) := by decide +kernel
theorem k187_82 {d : Nat} {l0 l1 l2 l3 : Option PV} {st : List PV} {M : Mem} {Q : Option PV → Mem → Prop} : WP d 187 82 [l0, l1, l2, l3] (st) M Q = WP d 187 84 [l0, l1, l2, l3] (vi 16 :: st) M Q := w_bipush mC_187 d187_82 (by decide)
theorem d187_84 : decode cX12_goes 84 = .ok (.iload_n 1, 1) := by decide +kernel
theorem k187_84 {d : Nat} {x : Int32} {l0 l2 l3 : Option PV} {st : List PV} {M : Mem} {Q : Option PV → Mem → Prop} : WP d 187 84 [l0, some (vi x), l2, l3] (st) M Q = WP d 187 85 [l0, some (vi x), l2, l3] (vi x :: st) M Q := w1 mC_187 d187_84 rfl rfl
theorem d187_85 : decode cX12_goes 85 = .ok (.iadd, 1) := by decide +kernel
theorem k187_85 {d : Nat} {l0 l1 l2 l3 : Option PV} {st : List PV} {M : Mem} {Q : Option PV → Mem → Prop} {x y : Int32} : WP d 187 85 [l0, l1, l2, l3] (vi y :: vi x :: st) M Q = WP d 187 86 [l0, l1, l2, l3] (vi (x + y) :: st) M Q := w1 mC_187 d187_85 rfl rfl
theorem d187_86 : decode cX12_goes 86 = .ok (.iaload, 1) := by decide +kernel
theorem k187_86 {d : Nat} {l0 l1 l2 l3 : Option PV} {st : List PV} {M : Mem} {Q : Option PV → Mem → Prop} {r : Nat} {j : Int32} (hk : mK M r = 13) (hj : inb j (mN M r)) (h1 : r ≠ 1) : WP d 187 86 [l0, l1, l2, l3] (vi j :: vr r :: st) M Q = WP d 187 87 [l0, l1, l2, l3] (vi (mI M r (ix j)) :: st) M Q := w_iald mC_187 d187_86 (by decide) hk hj h1
theorem d187_87 : decode cX12_goes 87 = .ok (.aload_n 0, 1) := by decide +kernel
theorem k187_87 {d x : Nat} {l1 l2 l3 : Option PV} {st : List PV} {M : Mem} {Q : Option PV → Mem → Prop} : WP d 187 87 [some (vr x), l1, l2, l3] (st) M Q = WP d 187 88 [some (vr x), l1, l2, l3] (vr x :: st) M Q := w1 mC_187 d187_87 rfl rfl
theorem d187_88 : decode cX12_goes 88 = .ok (.getfield 9, 3) := by decide +kernel
theorem k187_88 {d : Nat} {l0 l1 l2 l3 : Option PV} {st : List PV} {M : Mem} {Q : Option PV → Mem → Prop} {r : Nat} (hk : mK M r = 12) : WP d 187 88 [l0, l1, l2, l3] (vr r :: st) M Q = WP d 187 91 [l0, l1, l2, l3] (vr (mR M r 2) :: st) M Q := w_getr mC_187 d187_88 fE_12_9 rfl (by rw [hk]; rfl)
theorem d187_91 : decode cX12_goes 91 = .ok (.iload_n 2, 1) := by decide +kernel
theorem k187_91 {d : Nat} {x : Int32} {l0 l1 l3 : Option PV} {st : List PV} {M : Mem} {Q : Option PV → Mem → Prop} : WP d 187 91 [l0, l1, some (vi x), l3] (st) M Q = WP d 187 92 [l0, l1, some (vi x), l3] (vi x :: st) M Q := w1 mC_187 d187_91 rfl rfl
theorem d187_92 : decode cX12_goes 92 = .ok (.iaload, 1) := by decide +kernel
theorem k187_92 {d : Nat} {l0 l1 l2 l3 : Option PV} {st : List PV} {M : Mem} {Q : Option PV → Mem → Prop} {r : Nat} {j : Int32} (hk : mK M r = 13) (hj : inb j (mN M r)) (h1 : r ≠ 1) : WP d 187 92 [l0, l1, l2, l3] (vi j :: vr r :: st) M Q = WP d 187 93 [l0, l1, l2, l3] (vi (mI M r (ix j)) :: st) M Q := w_iald mC_187 d187_92 (by decide) hk hj h1
theorem d187_93 : decode cX12_goes 93 = .ok (.if_icmp .eq 4, 3) := by decide +kernel
theorem k187_93 {d : Nat} {l0 l1 l2 l3 : Option PV} {st : List PV} {M : Mem} {Q : Option PV → Mem → Prop} {x y : Int32} : WP d 187 93 [l0, l1, l2, l3] (vi y :: vi x :: st) M Q = (if x = y then WP d 187 97 [l0, l1, l2, l3] (st) M Q else WP d 187 96 [l0, l1, l2, l3] (st) M Q) := w_ic_eq mC_187 d187_93 (by decide)
theorem d187_96 : decode cX12_goes 96 = .ok (.return_, 1) := by decide +kernel
theorem k187_96 {d : Nat} {l0 l1 l2 l3 : Option PV} {M : Mem} {Q : Option PV → Mem → Prop} : WP d 187 96 [l0, l1, l2, l3] ([]) M Q = Q none M := w_vret mC_187 d187_96 rfl
theorem d187_97 : decode cX12_goes 97 = .ok (.aload_n 0, 1) := by decide +kernel
theorem k187_97 {d x : Nat} {l1 l2 l3 : Option PV} {st : List PV} {M : Mem} {Q : Option PV → Mem → Prop} : WP d 187 97 [some (vr x), l1, l2, l3] (st) M Q = WP d 187 98 [some (vr x), l1, l2, l3] (vr x :: st) M Q := w1 mC_187 d187_97 rfl rfl
theorem d187_98 : decode cX12_goes 98 = .ok (.getfield 9, 3) := by decide +kernel
theorem k187_98 {d : Nat} {l0 l1 l2 l3 : Option PV} {st : List PV} {M : Mem} {Q : Option PV → Mem → Prop} {r : Nat} (hk : mK M r = 12) : WP d 187 98 [l0, l1, l2, l3] (vr r :: st) M Q = WP d 187 101 [l0, l1, l2, l3] (vr (mR M r 2) :: st) M Q := w_getr mC_187 d187_98 fE_12_9 rfl (by rw [hk]; rfl)
theorem d187_101 : decode cX12_goes 101 = .ok (.bipush 8, 2) := by decide +kernel
theorem k187_101 {d : Nat} {l0 l1 l2 l3 : Option PV} {st : List PV} {M : Mem} {Q : Option PV → Mem → Prop} : WP d 187 101 [l0, l1, l2, l3] (st) M Q = WP d 187 103 [l0, l1, l2, l3] (vi 8 :: st) M Q := w_bipush mC_187 d187_101 (by decide)
theorem d187_103 : decode cX12_goes 103 = .ok (.iload_n 2, 1) := by decide +kernel
theorem k187_103 {d : Nat} {x : Int32} {l0 l1 l3 : Option PV} {st : List PV} {M : Mem} {Q : Option PV → Mem → Prop} : WP d 187 103 [l0, l1, some (vi x), l3] (st) M Q = WP d 187 104 [l0, l1, some (vi x), l3] (vi x :: st) M Q := w1 mC_187 d187_103 rfl rfl
theorem d187_104 : decode cX12_goes 104 = .ok (.iadd, 1) := by decide +kernel
theorem k187_104 {d : Nat} {l0 l1 l2 l3 : Option PV} {st : List PV} {M : Mem} {Q : Option PV → Mem → Prop} {x y : Int32} : WP d 187 104 [l0, l1, l2, l3] (vi y :: vi x :: st) M Q = WP d 187 105 [l0, l1, l2, l3] (vi (x + y) :: st) M Q := w1 mC_187 d187_104 rfl rfl
theorem d187_105 : decode cX12_goes 105 = .ok (.bipush 99, 2) := by decide +kernel
theorem k187_105 {d : Nat} {l0 l1 l2 l3 : Option PV} {st : List PV} {M : Mem} {Q : Option PV → Mem → Prop} : WP d 187 105 [l0, l1, l2, l3] (st) M Q = WP d 187 107 [l0, l1, l2, l3] (vi 99 :: st) M Q := w_bipush mC_187 d187_105 (by decide)
theorem d187_107 : decode cX12_goes 107 = .ok (.aload_n 0, 1) := by decide +kernel
theorem k187_107 {d x : Nat} {l1 l2 l3 : Option PV} {st : List PV} {M : Mem} {Q : Option PV → Mem → Prop} : WP d 187 107 [some (vr x), l1, l2, l3] (st) M Q = WP d 187 108 [some (vr x), l1, l2, l3] (vr x :: st) M Q := w1 mC_187 d187_107 rfl rfl
theorem d187_108 : decode cX12_goes 108 = .ok (.getfield 9, 3) := by decide +kernel
theorem k187_108 {d : Nat} {l0 l1 l2 l3 : Option PV} {st : List PV} {M : Mem} {Q : Option PV → Mem → Prop} {r : Nat} (hk : mK M r = 12) : WP d 187 108 [l0, l1, l2, l3] (vr r :: st) M Q = WP d 187 111 [l0, l1, l2, l3] (vr (mR M r 2) :: st) M Q := w_getr mC_187 d187_108 fE_12_9 rfl (by rw [hk]; rfl)
theorem d187_111 : decode cX12_goes 111 = .ok (.bipush 8, 2) := by decide +kernel
theorem k187_111 {d : Nat} {l0 l1 l2 l3 : Option PV} {st : List PV} {M : Mem} {Q : Option PV → Mem → Prop} : WP d 187 111 [l0, l1, l2, l3] (st) M Q = WP d 187 113 [l0, l1, l2, l3] (vi 8 :: st) M Q := w_bipush mC_187 d187_111 (by decide)
theorem d187_113 : decode cX12_goes 113 = .ok (.iload_n 2, 1) := by decide +kernel
theorem k187_113 {d : Nat} {x : Int32} {l0 l1 l3 : Option PV} {st : List PV} {M : Mem} {Q : Option PV → Mem → Prop} : WP d 187 113 [l0, l1, some (vi x), l3] (st) M Q = WP d 187 114 [l0, l1, some (vi x), l3] (vi x :: st) M Q := w1 mC_187 d187_113 rfl rfl
theorem d187_114 : decode cX12_goes 114 = .ok (.iadd, 1) := by decide +kernel
theorem k187_114 {d : Nat} {l0 l1 l2 l3 : Option PV} {st : List PV} {M : Mem} {Q : Option PV → Mem → Prop} {x y : Int32} : WP d 187 114 [l0, l1, l2, l3] (vi y :: vi x :: st) M Q = WP d 187 115 [l0, l1, l2, l3] (vi (x + y) :: st) M Q := w1 mC_187 d187_114 rfl rfl
theorem d187_115 : decode cX12_goes 115 = .ok (.iaload, 1) := by decide +kernel
theorem k187_115 {d : Nat} {l0 l1 l2 l3 : Option PV} {st : List PV} {M : Mem} {Q : Option PV → Mem → Prop} {r : Nat} {j : Int32} (hk : mK M r = 13) (hj : inb j (mN M r)) (h1 : r ≠ 1) : WP d 187 115 [l0, l1, l2, l3] (vi j :: vr r :: st) M Q = WP d 187 116 [l0, l1, l2, l3] (vi (mI M r (ix j)) :: st) M Q := w_iald mC_187 d187_115 (by decide) hk hj h1
theorem d187_116 : decode cX12_goes 116 = .ok (.aload_n 0, 1) := by decide +kernel
theorem k187_116 {d x : Nat} {l1 l2 l3 : Option PV} {st : List PV} {M : Mem} {Q : Option PV → Mem → Prop} : WP d 187 116 [some (vr x), l1, l2, l3] (st) M Q = WP d 187 117 [some (vr x), l1, l2, l3] (vr x :: st) M Q := w1 mC_187 d187_116 rfl rfl
theorem d187_117 : decode cX12_goes 117 = .ok (.iload_n 1, 1) := by decide +kernel
theorem k187_117 {d : Nat} {x : Int32} {l0 l2 l3 : Option PV} {st : List PV} {M : Mem} {Q : Option PV → Mem → Prop} : WP d 187 117 [l0, some (vi x), l2, l3] (st) M Q = WP d 187 118 [l0, some (vi x), l2, l3] (vi x :: st) M Q := w1 mC_187 d187_117 rfl rfl
theorem d187_118 : decode cX12_goes 118 = .ok (.invokevirtual 228, 3) := by decide +kernel
theorem k187_118 {d : Nat} {l0 l1 l2 l3 : Option PV} {st : List PV} {M : Mem} {Q : Option PV → Mem → Prop} {a0 : Int32} {r : Nat} (hl : szL st ≤ 8) (hk : mK M r = 12) : WP (d + 1) 187 118 [l0, l1, l2, l3] (vi a0 :: vr r :: st) M Q = WP d 182 0 [some (vr r), some (vi a0)] [] M (fun v M' => WP (d + 1) 187 121 [l0, l1, l2, l3] (psh v st) M' Q) := w_callV mC_187 d187_118 (ci := 12) rfl rfl rfl (Nat.le_of_ble_eq_true rfl) (by decide) rfl hl hk
theorem d187_121 : decode cX12_goes 121 = .ok (.iadd, 1) := by decide +kernel
theorem k187_121 {d : Nat} {l0 l1 l2 l3 : Option PV} {st : List PV} {M : Mem} {Q : Option PV → Mem → Prop} {x y : Int32} : WP d 187 121 [l0, l1, l2, l3] (vi y :: vi x :: st) M Q = WP d 187 122 [l0, l1, l2, l3] (vi (x + y) :: st) M Q := w1 mC_187 d187_121 rfl rfl
theorem d187_122 : decode cX12_goes 122 = .ok (.invokestatic 243, 3) := by decide +kernel
theorem k187_122 {d : Nat} {l0 l1 l2 l3 : Option PV} {st : List PV} {M : Mem} {Q : Option PV → Mem → Prop} {x y : Int32} (hl : szL st ≤ 8) : WP d 187 122 [l0, l1, l2, l3] (vi y :: vi x :: st) M Q = WP d 187 125 [l0, l1, l2, l3] (vi (if y < x then y else x) :: st) M Q := w_min mC_187 d187_122 rfl rfl rfl hl
theorem d187_125 : decode cX12_goes 125 = .ok (.iastore, 1) := by decide +kernel
theorem k187_125 {d : Nat} {l0 l1 l2 l3 : Option PV} {st : List PV} {M : Mem} {Q : Option PV → Mem → Prop} {r : Nat} {j x : Int32} (hk : mK M r = 13) (hj : inb j (mN M r)) (h1 : r ≠ 1) : WP d 187 125 [l0, l1, l2, l3] (vi x :: vi j :: vr r :: st) M Q = WP d 187 126 [l0, l1, l2, l3] (st) (sI M r (ix j) x) Q := w_iast mC_187 d187_125 hk hj h1
theorem d187_126 : decode cX12_goes 126 = .ok (.aload_n 0, 1) := by decide +kernel
theorem k187_126 {d x : Nat} {l1 l2 l3 : Option PV} {st : List PV} {M : Mem} {Q : Option PV → Mem → Prop} : WP d 187 126 [some (vr x), l1, l2, l3] (st) M Q = WP d 187 127 [some (vr x), l1, l2, l3] (vr x :: st) M Q := w1 mC_187 d187_126 rfl rfl
theorem d187_127 : decode cX12_goes 127 = .ok (.getfield 85, 3) := by decide +kernel
theorem k187_127 {d : Nat} {l0 l1 l2 l3 : Option PV} {st : List PV} {M : Mem} {Q : Option PV → Mem → Prop} {r : Nat} (hk : mK M r = 12) : WP d 187 127 [l0, l1, l2, l3] (vr r :: st) M Q = WP d 187 130 [l0, l1, l2, l3] (vr (mR M r 42) :: st) M Q := w_getr mC_187 d187_127 fE_12_85 rfl (by rw [hk]; rfl)
theorem d187_130 : decode cX12_goes 130 = .ok (.iconst 0, 1) := by decide +kernel
theorem k187_130 {d : Nat} {l0 l1 l2 l3 : Option PV} {st : List PV} {M : Mem} {Q : Option PV → Mem → Prop} : WP d 187 130 [l0, l1, l2, l3] (st) M Q = WP d 187 131 [l0, l1, l2, l3] (vi 0 :: st) M Q := w_iconst mC_187 d187_130 (by decide)
theorem d187_131 : decode cX12_goes 131 = .ok (.aload_n 0, 1) := by decide +kernel
theorem k187_131 {d x : Nat} {l1 l2 l3 : Option PV} {st : List PV} {M : Mem} {Q : Option PV → Mem → Prop} : WP d 187 131 [some (vr x), l1, l2, l3] (st) M Q = WP d 187 132 [some (vr x), l1, l2, l3] (vr x :: st) M Q := w1 mC_187 d187_131 rfl rfl
theorem d187_132 : decode cX12_goes 132 = .ok (.iload_n 1, 1) := by decide +kernel
theorem k187_132 {d : Nat} {x : Int32} {l0 l2 l3 : Option PV} {st : List PV} {M : Mem} {Q : Option PV → Mem → Prop} : WP d 187 132 [l0, some (vi x), l2, l3] (st) M Q = WP d 187 133 [l0, some (vi x), l2, l3] (vi x :: st) M Q := w1 mC_187 d187_132 rfl rfl
theorem d187_133 : decode cX12_goes 133 = .ok (.invokevirtual 228, 3) := by decide +kernel
theorem k187_133 {d : Nat} {l0 l1 l2 l3 : Option PV} {st : List PV} {M : Mem} {Q : Option PV → Mem → Prop} {a0 : Int32} {r : Nat} (hl : szL st ≤ 8) (hk : mK M r = 12) : WP (d + 1) 187 133 [l0, l1, l2, l3] (vi a0 :: vr r :: st) M Q = WP d 182 0 [some (vr r), some (vi a0)] [] M (fun v M' => WP (d + 1) 187 136 [l0, l1, l2, l3] (psh v st) M' Q) := w_callV mC_187 d187_133 (ci := 12) rfl rfl rfl (Nat.le_of_ble_eq_true rfl) (by decide) rfl hl hk
theorem d187_136 : decode cX12_goes 136 = .ok (.iastore, 1) := by decide +kernel
theorem k187_136 {d : Nat} {l0 l1 l2 l3 : Option PV} {st : List PV} {M : Mem} {Q : Option PV → Mem → Prop} {r : Nat} {j x : Int32} (hk : mK M r = 13) (hj : inb j (mN M r)) (h1 : r ≠ 1) : WP d 187 136 [l0, l1, l2, l3] (vi x :: vi j :: vr r :: st) M Q = WP d 187 137 [l0, l1, l2, l3] (st) (sI M r (ix j) x) Q := w_iast mC_187 d187_136 hk hj h1
theorem d187_137 : decode cX12_goes 137 = .ok (.aload_n 0, 1) := by decide +kernel
theorem k187_137 {d x : Nat} {l1 l2 l3 : Option PV} {st : List PV} {M : Mem} {Q : Option PV → Mem → Prop} : WP d 187 137 [some (vr x), l1, l2, l3] (st) M Q = WP d 187 138 [some (vr x), l1, l2, l3] (vr x :: st) M Q := w1 mC_187 d187_137 rfl rfl
theorem d187_138 : decode cX12_goes 138 = .ok (.getfield 9, 3) := by decide +kernel
theorem k187_138 {d : Nat} {l0 l1 l2 l3 : Option PV} {st : List PV} {M : Mem} {Q : Option PV → Mem → Prop} {r : Nat} (hk : mK M r = 12) : WP d 187 138 [l0, l1, l2, l3] (vr r :: st) M Q = WP d 187 141 [l0, l1, l2, l3] (vr (mR M r 2) :: st) M Q := w_getr mC_187 d187_138 fE_12_9 rfl (by rw [hk]; rfl)
theorem d187_141 : decode cX12_goes 141 = .ok (.bipush 32, 2) := by decide +kernel
theorem k187_141 {d : Nat} {l0 l1 l2 l3 : Option PV} {st : List PV} {M : Mem} {Q : Option PV → Mem → Prop} : WP d 187 141 [l0, l1, l2, l3] (st) M Q = WP d 187 143 [l0, l1, l2, l3] (vi 32 :: st) M Q := w_bipush mC_187 d187_141 (by decide)
theorem d187_143 : decode cX12_goes 143 = .ok (.iload_n 1, 1) := by decide +kernel
theorem k187_143 {d : Nat} {x : Int32} {l0 l2 l3 : Option PV} {st : List PV} {M : Mem} {Q : Option PV → Mem → Prop} : WP d 187 143 [l0, some (vi x), l2, l3] (st) M Q = WP d 187 144 [l0, some (vi x), l2, l3] (vi x :: st) M Q := w1 mC_187 d187_143 rfl rfl
theorem d187_144 : decode cX12_goes 144 = .ok (.iadd, 1) := by decide +kernel
theorem k187_144 {d : Nat} {l0 l1 l2 l3 : Option PV} {st : List PV} {M : Mem} {Q : Option PV → Mem → Prop} {x y : Int32} : WP d 187 144 [l0, l1, l2, l3] (vi y :: vi x :: st) M Q = WP d 187 145 [l0, l1, l2, l3] (vi (x + y) :: st) M Q := w1 mC_187 d187_144 rfl rfl
theorem d187_145 : decode cX12_goes 145 = .ok (.iconst (-1), 1) := by decide +kernel
theorem k187_145 {d : Nat} {l0 l1 l2 l3 : Option PV} {st : List PV} {M : Mem} {Q : Option PV → Mem → Prop} : WP d 187 145 [l0, l1, l2, l3] (st) M Q = WP d 187 146 [l0, l1, l2, l3] (vi (-1) :: st) M Q := w_iconst mC_187 d187_145 (by decide)
theorem d187_146 : decode cX12_goes 146 = .ok (.iastore, 1) := by decide +kernel
theorem k187_146 {d : Nat} {l0 l1 l2 l3 : Option PV} {st : List PV} {M : Mem} {Q : Option PV → Mem → Prop} {r : Nat} {j x : Int32} (hk : mK M r = 13) (hj : inb j (mN M r)) (h1 : r ≠ 1) : WP d 187 146 [l0, l1, l2, l3] (vi x :: vi j :: vr r :: st) M Q = WP d 187 147 [l0, l1, l2, l3] (st) (sI M r (ix j) x) Q := w_iast mC_187 d187_146 hk hj h1
theorem d187_147 : decode cX12_goes 147 = .ok (.aload_n 0, 1) := by decide +kernel
theorem k187_147 {d x : Nat} {l1 l2 l3 : Option PV} {st : List PV} {M : Mem} {Q : Option PV → Mem → Prop} : WP d 187 147 [some (vr x), l1, l2, l3] (st) M Q = WP d 187 148 [some (vr x), l1, l2, l3] (vr x :: st) M Q := w1 mC_187 d187_147 rfl rfl
theorem d187_148 : decode cX12_goes 148 = .ok (.getfield 9, 3) := by decide +kernel
theorem k187_148 {d : Nat} {l0 l1 l2 l3 : Option PV} {st : List PV} {M : Mem} {Q : Option PV → Mem → Prop} {r : Nat} (hk : mK M r = 12) : WP d 187 148 [l0, l1, l2, l3] (vr r :: st) M Q = WP d 187 151 [l0, l1, l2, l3] (vr (mR M r 2) :: st) M Q := w_getr mC_187 d187_148 fE_12_9 rfl (by rw [hk]; rfl)
theorem d187_151 : decode cX12_goes 151 = .ok (.bipush 40, 2) := by decide +kernel
theorem k187_151 {d : Nat} {l0 l1 l2 l3 : Option PV} {st : List PV} {M : Mem} {Q : Option PV → Mem → Prop} : WP d 187 151 [l0, l1, l2, l3] (st) M Q = WP d 187 153 [l0, l1, l2, l3] (vi 40 :: st) M Q := w_bipush mC_187 d187_151 (by decide)
theorem d187_153 : decode cX12_goes 153 = .ok (.iload_n 1, 1) := by decide +kernel
theorem k187_153 {d : Nat} {x : Int32} {l0 l2 l3 : Option PV} {st : List PV} {M : Mem} {Q : Option PV → Mem → Prop} : WP d 187 153 [l0, some (vi x), l2, l3] (st) M Q = WP d 187 154 [l0, some (vi x), l2, l3] (vi x :: st) M Q := w1 mC_187 d187_153 rfl rfl
theorem d187_154 : decode cX12_goes 154 = .ok (.iadd, 1) := by decide +kernel
theorem k187_154 {d : Nat} {l0 l1 l2 l3 : Option PV} {st : List PV} {M : Mem} {Q : Option PV → Mem → Prop} {x y : Int32} : WP d 187 154 [l0, l1, l2, l3] (vi y :: vi x :: st) M Q = WP d 187 155 [l0, l1, l2, l3] (vi (x + y) :: st) M Q := w1 mC_187 d187_154 rfl rfl
theorem d187_155 : decode cX12_goes 155 = .ok (.iconst 0, 1) := by decide +kernel
theorem k187_155 {d : Nat} {l0 l1 l2 l3 : Option PV} {st : List PV} {M : Mem} {Q : Option PV → Mem → Prop} : WP d 187 155 [l0, l1, l2, l3] (st) M Q = WP d 187 156 [l0, l1, l2, l3] (vi 0 :: st) M Q := w_iconst mC_187 d187_155 (by decide)
theorem d187_156 : decode cX12_goes 156 = .ok (.iastore, 1) := by decide +kernel
theorem k187_156 {d : Nat} {l0 l1 l2 l3 : Option PV} {st : List PV} {M : Mem} {Q : Option PV → Mem → Prop} {r : Nat} {j x : Int32} (hk : mK M r = 13) (hj : inb j (mN M r)) (h1 : r ≠ 1) : WP d 187 156 [l0, l1, l2, l3] (vi x :: vi j :: vr r :: st) M Q = WP d 187 157 [l0, l1, l2, l3] (st) (sI M r (ix j) x) Q := w_iast mC_187 d187_156 hk hj h1
theorem d187_157 : decode cX12_goes 157 = .ok (.aload_n 0, 1) := by decide +kernel
theorem k187_157 {d x : Nat} {l1 l2 l3 : Option PV} {st : List PV} {M : Mem} {Q : Option PV → Mem → Prop} : WP d 187 157 [some (vr x), l1, l2, l3] (st) M Q = WP d 187 158 [some (vr x), l1, l2, l3] (vr x :: st) M Q := w1 mC_187 d187_157 rfl rfl
theorem d187_158 : decode cX12_goes 158 = .ok (.dup, 1) := by decide +kernel
theorem k187_158 {d : Nat} {l0 l1 l2 l3 : Option PV} {st : List PV} {M : Mem} {Q : Option PV → Mem → Prop} {x : Nat} : WP d 187 158 [l0, l1, l2, l3] (vr x :: st) M Q = WP d 187 159 [l0, l1, l2, l3] (vr x :: vr x :: st) M Q := w1 mC_187 d187_158 rfl rfl
theorem k187_158i {d : Nat} {l0 l1 l2 l3 : Option PV} {st : List PV} {M : Mem} {Q : Option PV → Mem → Prop} {x : Int32} : WP d 187 158 [l0, l1, l2, l3] (vi x :: st) M Q = WP d 187 159 [l0, l1, l2, l3] (vi x :: vi x :: st) M Q := w1 mC_187 d187_158 rfl rfl
theorem d187_159 : decode cX12_goes 159 = .ok (.getfield 258, 3) := by decide +kernel
theorem k187_159 {d : Nat} {l0 l1 l2 l3 : Option PV} {st : List PV} {M : Mem} {Q : Option PV → Mem → Prop} {r : Nat} (hk : mK M r = 12) : WP d 187 159 [l0, l1, l2, l3] (vr r :: st) M Q = WP d 187 162 [l0, l1, l2, l3] (vi (mI M r 39) :: st) M Q := w_get mC_187 d187_159 fE_12_258 rfl (by rw [hk]; rfl)
theorem d187_162 : decode cX12_goes 162 = .ok (.iconst 1, 1) := by decide +kernel
theorem k187_162 {d : Nat} {l0 l1 l2 l3 : Option PV} {st : List PV} {M : Mem} {Q : Option PV → Mem → Prop} : WP d 187 162 [l0, l1, l2, l3] (st) M Q = WP d 187 163 [l0, l1, l2, l3] (vi 1 :: st) M Q := w_iconst mC_187 d187_162 (by decide)
theorem d187_163 : decode cX12_goes 163 = .ok (.iload_n 1, 1) := by decide +kernel
theorem k187_163 {d : Nat} {x : Int32} {l0 l2 l3 : Option PV} {st : List PV} {M : Mem} {Q : Option PV → Mem → Prop} : WP d 187 163 [l0, some (vi x), l2, l3] (st) M Q = WP d 187 164 [l0, some (vi x), l2, l3] (vi x :: st) M Q := w1 mC_187 d187_163 rfl rfl
theorem d187_164 : decode cX12_goes 164 = .ok (.ishl, 1) := by decide +kernel
theorem k187_164 {d : Nat} {l0 l1 l2 l3 : Option PV} {st : List PV} {M : Mem} {Q : Option PV → Mem → Prop} {x y : Int32} : WP d 187 164 [l0, l1, l2, l3] (vi y :: vi x :: st) M Q = WP d 187 165 [l0, l1, l2, l3] (vi (x <<< (y &&& 31)) :: st) M Q := w1 mC_187 d187_164 rfl rfl
theorem d187_165 : decode cX12_goes 165 = .ok (.ior, 1) := by decide +kernel
theorem k187_165 {d : Nat} {l0 l1 l2 l3 : Option PV} {st : List PV} {M : Mem} {Q : Option PV → Mem → Prop} {x y : Int32} : WP d 187 165 [l0, l1, l2, l3] (vi y :: vi x :: st) M Q = WP d 187 166 [l0, l1, l2, l3] (vi (x ||| y) :: st) M Q := w1 mC_187 d187_165 rfl rfl
theorem d187_166 : decode cX12_goes 166 = .ok (.putfield 258, 3) := by decide +kernel
theorem k187_166 {d : Nat} {l0 l1 l2 l3 : Option PV} {st : List PV} {M : Mem} {Q : Option PV → Mem → Prop} {r : Nat} {x : Int32} (hk : mK M r = 12) : WP d 187 166 [l0, l1, l2, l3] (vi x :: vr r :: st) M Q = WP d 187 169 [l0, l1, l2, l3] (st) (sI M r 39 x) Q := w_put mC_187 d187_166 fE_12_258 (by decide +kernel) (by rw [hk]; rfl)
theorem d187_169 : decode cX12_goes 169 = .ok (.return_, 1) := by decide +kernel
theorem k187_169 {d : Nat} {l0 l1 l2 l3 : Option PV} {M : Mem} {Q : Option PV → Mem → Prop} : WP d 187 169 [l0, l1, l2, l3] ([]) M Q = Q none M := w_vret mC_187 d187_169 rfl
theorem d188_0 : decode cX12_passes 0 = .ok (.aload_n 0, 1) := by decide +kernel
theorem k188_0 {d x : Nat} {l1 : Option PV} {st : List PV} {M : Mem} {Q : Option PV → Mem → Prop} : WP d 188 0 [some (vr x), l1] (st) M Q = WP d 188 1 [some (vr x), l1] (vr x :: st) M Q := w1 mC_188 d188_0 rfl rfl
theorem d188_1 : decode cX12_passes 1 = .ok (.iconst 0, 1) := by decide +kernel
theorem k188_1 {d : Nat} {l0 l1 : Option PV} {st : List PV} {M : Mem} {Q : Option PV → Mem → Prop} : WP d 188 1 [l0, l1] (st) M Q = WP d 188 2 [l0, l1] (vi 0 :: st) M Q := w_iconst mC_188 d188_1 (by decide)
theorem d188_2 : decode cX12_passes 2 = .ok (.putfield 252, 3) := by decide +kernel
theorem k188_2 {d : Nat} {l0 l1 : Option PV} {st : List PV} {M : Mem} {Q : Option PV → Mem → Prop} {r : Nat} {x : Int32} (hk : mK M r = 12) : WP d 188 2 [l0, l1] (vi x :: vr r :: st) M Q = WP d 188 5 [l0, l1] (st) (sI M r 38 x) Q := w_put mC_188 d188_2 fE_12_252 (by decide +kernel) (by rw [hk]; rfl)
theorem d188_5 : decode cX12_passes 5 = .ok (.aload_n 0, 1) := by decide +kernel
theorem k188_5 {d x : Nat} {l1 : Option PV} {st : List PV} {M : Mem} {Q : Option PV → Mem → Prop} : WP d 188 5 [some (vr x), l1] (st) M Q = WP d 188 6 [some (vr x), l1] (vr x :: st) M Q := w1 mC_188 d188_5 rfl rfl
theorem d188_6 : decode cX12_passes 6 = .ok (.iconst 0, 1) := by decide +kernel
theorem k188_6 {d : Nat} {l0 l1 : Option PV} {st : List PV} {M : Mem} {Q : Option PV → Mem → Prop} : WP d 188 6 [l0, l1] (st) M Q = WP d 188 7 [l0, l1] (vi 0 :: st) M Q := w_iconst mC_188 d188_6 (by decide)
theorem d188_7 : decode cX12_passes 7 = .ok (.putfield 258, 3) := by decide +kernel
theorem k188_7 {d : Nat} {l0 l1 : Option PV} {st : List PV} {M : Mem} {Q : Option PV → Mem → Prop} {r : Nat} {x : Int32} (hk : mK M r = 12) : WP d 188 7 [l0, l1] (vi x :: vr r :: st) M Q = WP d 188 10 [l0, l1] (st) (sI M r 39 x) Q := w_put mC_188 d188_7 fE_12_258 (by decide +kernel) (by rw [hk]; rfl)
theorem d188_10 : decode cX12_passes 10 = .ok (.iconst 0, 1) := by decide +kernel
theorem k188_10 {d : Nat} {l0 l1 : Option PV} {st : List PV} {M : Mem} {Q : Option PV → Mem → Prop} : WP d 188 10 [l0, l1] (st) M Q = WP d 188 11 [l0, l1] (vi 0 :: st) M Q := w_iconst mC_188 d188_10 (by decide)
theorem d188_11 : decode cX12_passes 11 = .ok (.istore_n 1, 1) := by decide +kernel
theorem k188_11 {d : Nat} {l0 l1 : Option PV} {st : List PV} {M : Mem} {Q : Option PV → Mem → Prop} {x : Int32} : WP d 188 11 [l0, l1] (vi x :: st) M Q = WP d 188 12 [l0, some (vi x)] (st) M Q := w1 mC_188 d188_11 rfl rfl
theorem d188_12 : decode cX12_passes 12 = .ok (.iload_n 1, 1) := by decide +kernel
theorem k188_12 {d : Nat} {x : Int32} {l0 : Option PV} {st : List PV} {M : Mem} {Q : Option PV → Mem → Prop} : WP d 188 12 [l0, some (vi x)] (st) M Q = WP d 188 13 [l0, some (vi x)] (vi x :: st) M Q := w1 mC_188 d188_12 rfl rfl
theorem d188_13 : decode cX12_passes 13 = .ok (.aload_n 0, 1) := by decide +kernel
theorem k188_13 {d x : Nat} {l1 : Option PV} {st : List PV} {M : Mem} {Q : Option PV → Mem → Prop} : WP d 188 13 [some (vr x), l1] (st) M Q = WP d 188 14 [some (vr x), l1] (vr x :: st) M Q := w1 mC_188 d188_13 rfl rfl
theorem d188_14 : decode cX12_passes 14 = .ok (.getfield 108, 3) := by decide +kernel
theorem k188_14 {d : Nat} {l0 l1 : Option PV} {st : List PV} {M : Mem} {Q : Option PV → Mem → Prop} {r : Nat} (hk : mK M r = 12) : WP d 188 14 [l0, l1] (vr r :: st) M Q = WP d 188 17 [l0, l1] (vi (mI M r 1) :: st) M Q := w_get mC_188 d188_14 fE_12_108 rfl (by rw [hk]; rfl)
theorem d188_17 : decode cX12_passes 17 = .ok (.if_icmp .ge 23, 3) := by decide +kernel
theorem k188_17 {d : Nat} {l0 l1 : Option PV} {st : List PV} {M : Mem} {Q : Option PV → Mem → Prop} {x y : Int32} : WP d 188 17 [l0, l1] (vi y :: vi x :: st) M Q = (if y ≤ x then WP d 188 40 [l0, l1] (st) M Q else WP d 188 20 [l0, l1] (st) M Q) := w_ic_ge mC_188 d188_17 (by decide)
theorem d188_20 : decode cX12_passes 20 = .ok (.aload_n 0, 1) := by decide +kernel
theorem k188_20 {d x : Nat} {l1 : Option PV} {st : List PV} {M : Mem} {Q : Option PV → Mem → Prop} : WP d 188 20 [some (vr x), l1] (st) M Q = WP d 188 21 [some (vr x), l1] (vr x :: st) M Q := w1 mC_188 d188_20 rfl rfl
theorem d188_21 : decode cX12_passes 21 = .ok (.iload_n 1, 1) := by decide +kernel
theorem k188_21 {d : Nat} {x : Int32} {l0 : Option PV} {st : List PV} {M : Mem} {Q : Option PV → Mem → Prop} : WP d 188 21 [l0, some (vi x)] (st) M Q = WP d 188 22 [l0, some (vi x)] (vi x :: st) M Q := w1 mC_188 d188_21 rfl rfl
theorem d188_22 : decode cX12_passes 22 = .ok (.invokevirtual 231, 3) := by decide +kernel
theorem k188_22 {d : Nat} {l0 l1 : Option PV} {st : List PV} {M : Mem} {Q : Option PV → Mem → Prop} {a0 : Int32} {r : Nat} (hl : szL st ≤ 8) (hk : mK M r = 12) : WP (d + 1) 188 22 [l0, l1] (vi a0 :: vr r :: st) M Q = WP d 181 0 [some (vr r), some (vi a0)] [] M (fun v M' => WP (d + 1) 188 25 [l0, l1] (psh v st) M' Q) := w_callV mC_188 d188_22 (ci := 12) rfl rfl rfl (Nat.le_of_ble_eq_true rfl) (by decide) rfl hl hk
theorem d188_25 : decode cX12_passes 25 = .ok (.iconst (-1), 1) := by decide +kernel
theorem k188_25 {d : Nat} {l0 l1 : Option PV} {st : List PV} {M : Mem} {Q : Option PV → Mem → Prop} : WP d 188 25 [l0, l1] (st) M Q = WP d 188 26 [l0, l1] (vi (-1) :: st) M Q := w_iconst mC_188 d188_25 (by decide)
theorem d188_26 : decode cX12_passes 26 = .ok (.if_icmp .eq 8, 3) := by decide +kernel
theorem k188_26 {d : Nat} {l0 l1 : Option PV} {st : List PV} {M : Mem} {Q : Option PV → Mem → Prop} {x y : Int32} : WP d 188 26 [l0, l1] (vi y :: vi x :: st) M Q = (if x = y then WP d 188 34 [l0, l1] (st) M Q else WP d 188 29 [l0, l1] (st) M Q) := w_ic_eq mC_188 d188_26 (by decide)
theorem d188_29 : decode cX12_passes 29 = .ok (.aload_n 0, 1) := by decide +kernel
theorem k188_29 {d x : Nat} {l1 : Option PV} {st : List PV} {M : Mem} {Q : Option PV → Mem → Prop} : WP d 188 29 [some (vr x), l1] (st) M Q = WP d 188 30 [some (vr x), l1] (vr x :: st) M Q := w1 mC_188 d188_29 rfl rfl
theorem d188_30 : decode cX12_passes 30 = .ok (.iload_n 1, 1) := by decide +kernel
theorem k188_30 {d : Nat} {x : Int32} {l0 : Option PV} {st : List PV} {M : Mem} {Q : Option PV → Mem → Prop} : WP d 188 30 [l0, some (vi x)] (st) M Q = WP d 188 31 [l0, some (vi x)] (vi x :: st) M Q := w1 mC_188 d188_30 rfl rfl
theorem d188_31 : decode cX12_passes 31 = .ok (.invokevirtual 261, 3) := by decide +kernel
theorem k188_31 {d : Nat} {l0 l1 : Option PV} {st : List PV} {M : Mem} {Q : Option PV → Mem → Prop} {a0 : Int32} {r : Nat} (hl : szL st ≤ 8) (hk : mK M r = 12) : WP (d + 1) 188 31 [l0, l1] (vi a0 :: vr r :: st) M Q = WP d 187 0 [some (vr r), some (vi a0), none, none] [] M (fun v M' => WP (d + 1) 188 34 [l0, l1] (psh v st) M' Q) := w_callV mC_188 d188_31 (ci := 12) rfl rfl rfl (Nat.le_of_ble_eq_true rfl) (by decide) rfl hl hk
theorem d188_34 : decode cX12_passes 34 = .ok (.iinc 1 1, 3) := by decide +kernel
theorem k188_34 {d : Nat} {x : Int32} {l0 : Option PV} {st : List PV} {M : Mem} {Q : Option PV → Mem → Prop} : WP d 188 34 [l0, some (vi x)] (st) M Q = WP d 188 37 [l0, some (vi (x + 1))] (st) M Q := w_iinc mC_188 d188_34 rfl (by decide) rfl
theorem d188_37 : decode cX12_passes 37 = .ok (.goto (-25), 3) := by decide +kernel
theorem k188_37 {d : Nat} {l0 l1 : Option PV} {st : List PV} {M : Mem} {Q : Option PV → Mem → Prop} : WP d 188 37 [l0, l1] (st) M Q = WP d 188 12 [l0, l1] (st) M Q := w_goto mC_188 d188_37 (by decide)
theorem d188_40 : decode cX12_passes 40 = .ok (.aload_n 0, 1) := by decide +kernel
theorem k188_40 {d x : Nat} {l1 : Option PV} {st : List PV} {M : Mem} {Q : Option PV → Mem → Prop} : WP d 188 40 [some (vr x), l1] (st) M Q = WP d 188 41 [some (vr x), l1] (vr x :: st) M Q := w1 mC_188 d188_40 rfl rfl
theorem d188_41 : decode cX12_passes 41 = .ok (.getfield 15, 3) := by decide +kernel
theorem k188_41 {d : Nat} {l0 l1 : Option PV} {st : List PV} {M : Mem} {Q : Option PV → Mem → Prop} {r : Nat} (hk : mK M r = 12) : WP d 188 41 [l0, l1] (vr r :: st) M Q = WP d 188 44 [l0, l1] (vr (mR M r 3) :: st) M Q := w_getr mC_188 d188_41 fE_12_15 rfl (by rw [hk]; rfl)
theorem d188_44 : decode cX12_passes 44 = .ok (.iconst 1, 1) := by decide +kernel
theorem k188_44 {d : Nat} {l0 l1 : Option PV} {st : List PV} {M : Mem} {Q : Option PV → Mem → Prop} : WP d 188 44 [l0, l1] (st) M Q = WP d 188 45 [l0, l1] (vi 1 :: st) M Q := w_iconst mC_188 d188_44 (by decide)
theorem d188_45 : decode cX12_passes 45 = .ok (.aload_n 0, 1) := by decide +kernel
theorem k188_45 {d x : Nat} {l1 : Option PV} {st : List PV} {M : Mem} {Q : Option PV → Mem → Prop} : WP d 188 45 [some (vr x), l1] (st) M Q = WP d 188 46 [some (vr x), l1] (vr x :: st) M Q := w1 mC_188 d188_45 rfl rfl
theorem d188_46 : decode cX12_passes 46 = .ok (.getfield 15, 3) := by decide +kernel
theorem k188_46 {d : Nat} {l0 l1 : Option PV} {st : List PV} {M : Mem} {Q : Option PV → Mem → Prop} {r : Nat} (hk : mK M r = 12) : WP d 188 46 [l0, l1] (vr r :: st) M Q = WP d 188 49 [l0, l1] (vr (mR M r 3) :: st) M Q := w_getr mC_188 d188_46 fE_12_15 rfl (by rw [hk]; rfl)
theorem d188_49 : decode cX12_passes 49 = .ok (.iconst 1, 1) := by decide +kernel
theorem k188_49 {d : Nat} {l0 l1 : Option PV} {st : List PV} {M : Mem} {Q : Option PV → Mem → Prop} : WP d 188 49 [l0, l1] (st) M Q = WP d 188 50 [l0, l1] (vi 1 :: st) M Q := w_iconst mC_188 d188_49 (by decide)
theorem d188_50 : decode cX12_passes 50 = .ok (.iaload, 1) := by decide +kernel
theorem k188_50 {d : Nat} {l0 l1 : Option PV} {st : List PV} {M : Mem} {Q : Option PV → Mem → Prop} {r : Nat} {j : Int32} (hk : mK M r = 13) (hj : inb j (mN M r)) (h1 : r ≠ 1) : WP d 188 50 [l0, l1] (vi j :: vr r :: st) M Q = WP d 188 51 [l0, l1] (vi (mI M r (ix j)) :: st) M Q := w_iald mC_188 d188_50 (by decide) hk hj h1
theorem d188_51 : decode cX12_passes 51 = .ok (.iconst 1, 1) := by decide +kernel
theorem k188_51 {d : Nat} {l0 l1 : Option PV} {st : List PV} {M : Mem} {Q : Option PV → Mem → Prop} : WP d 188 51 [l0, l1] (st) M Q = WP d 188 52 [l0, l1] (vi 1 :: st) M Q := w_iconst mC_188 d188_51 (by decide)
theorem d188_52 : decode cX12_passes 52 = .ok (.iadd, 1) := by decide +kernel
theorem k188_52 {d : Nat} {l0 l1 : Option PV} {st : List PV} {M : Mem} {Q : Option PV → Mem → Prop} {x y : Int32} : WP d 188 52 [l0, l1] (vi y :: vi x :: st) M Q = WP d 188 53 [l0, l1] (vi (x + y) :: st) M Q := w1 mC_188 d188_52 rfl rfl
theorem d188_53 : decode cX12_passes 53 = .ok (.bipush 12, 2) := by decide +kernel
theorem k188_53 {d : Nat} {l0 l1 : Option PV} {st : List PV} {M : Mem} {Q : Option PV → Mem → Prop} : WP d 188 53 [l0, l1] (st) M Q = WP d 188 55 [l0, l1] (vi 12 :: st) M Q := w_bipush mC_188 d188_53 (by decide)
theorem d188_55 : decode cX12_passes 55 = .ok (.irem, 1) := by decide +kernel
theorem k188_55 {d : Nat} {l0 l1 : Option PV} {st : List PV} {M : Mem} {Q : Option PV → Mem → Prop} {x y : Int32} (h : y ≠ 0) : WP d 188 55 [l0, l1] (vi y :: vi x :: st) M Q = WP d 188 56 [l0, l1] (vi (x % y) :: st) M Q := w_rem mC_188 d188_55 h
theorem d188_56 : decode cX12_passes 56 = .ok (.iastore, 1) := by decide +kernel
theorem k188_56 {d : Nat} {l0 l1 : Option PV} {st : List PV} {M : Mem} {Q : Option PV → Mem → Prop} {r : Nat} {j x : Int32} (hk : mK M r = 13) (hj : inb j (mN M r)) (h1 : r ≠ 1) : WP d 188 56 [l0, l1] (vi x :: vi j :: vr r :: st) M Q = WP d 188 57 [l0, l1] (st) (sI M r (ix j) x) Q := w_iast mC_188 d188_56 hk hj h1
theorem d188_57 : decode cX12_passes 57 = .ok (.return_, 1) := by decide +kernel
theorem k188_57 {d : Nat} {l0 l1 : Option PV} {M : Mem} {Q : Option PV → Mem → Prop} : WP d 188 57 [l0, l1] ([]) M Q = Q none M := w_vret mC_188 d188_57 rfl
theorem d189_0 : decode cX12_goesOn 0 = .ok (.iconst 0, 1) := by decide +kernel
theorem k189_0 {d : Nat} {l0 l1 l2 : Option PV} {st : List PV} {M : Mem} {Q : Option PV → Mem → Prop} : WP d 189 0 [l0, l1, l2] (st) M Q = WP d 189 1 [l0, l1, l2] (vi 0 :: st) M Q := w_iconst mC_189 d189_0 (by decide)
theorem d189_1 : decode cX12_goesOn 1 = .ok (.istore_n 2, 1) := by decide +kernel
theorem k189_1 {d : Nat} {l0 l1 l2 : Option PV} {st : List PV} {M : Mem} {Q : Option PV → Mem → Prop} {x : Int32} : WP d 189 1 [l0, l1, l2] (vi x :: st) M Q = WP d 189 2 [l0, l1, some (vi x)] (st) M Q := w1 mC_189 d189_1 rfl rfl
theorem d189_2 : decode cX12_goesOn 2 = .ok (.iload_n 2, 1) := by decide +kernel
theorem k189_2 {d : Nat} {x : Int32} {l0 l1 : Option PV} {st : List PV} {M : Mem} {Q : Option PV → Mem → Prop} : WP d 189 2 [l0, l1, some (vi x)] (st) M Q = WP d 189 3 [l0, l1, some (vi x)] (vi x :: st) M Q := w1 mC_189 d189_2 rfl rfl
theorem d189_3 : decode cX12_goesOn 3 = .ok (.iload_n 1, 1) := by decide +kernel
theorem k189_3 {d : Nat} {x : Int32} {l0 l2 : Option PV} {st : List PV} {M : Mem} {Q : Option PV → Mem → Prop} : WP d 189 3 [l0, some (vi x), l2] (st) M Q = WP d 189 4 [l0, some (vi x), l2] (vi x :: st) M Q := w1 mC_189 d189_3 rfl rfl
theorem d189_4 : decode cX12_goesOn 4 = .ok (.if_icmp .ge 13, 3) := by decide +kernel
theorem k189_4 {d : Nat} {l0 l1 l2 : Option PV} {st : List PV} {M : Mem} {Q : Option PV → Mem → Prop} {x y : Int32} : WP d 189 4 [l0, l1, l2] (vi y :: vi x :: st) M Q = (if y ≤ x then WP d 189 17 [l0, l1, l2] (st) M Q else WP d 189 7 [l0, l1, l2] (st) M Q) := w_ic_ge mC_189 d189_4 (by decide)
theorem d189_7 : decode cX12_goesOn 7 = .ok (.aload_n 0, 1) := by decide +kernel
theorem k189_7 {d x : Nat} {l1 l2 : Option PV} {st : List PV} {M : Mem} {Q : Option PV → Mem → Prop} : WP d 189 7 [some (vr x), l1, l2] (st) M Q = WP d 189 8 [some (vr x), l1, l2] (vr x :: st) M Q := w1 mC_189 d189_7 rfl rfl
theorem d189_8 : decode cX12_goesOn 8 = .ok (.invokevirtual 265, 3) := by decide +kernel
theorem k189_8 {d : Nat} {l0 l1 l2 : Option PV} {st : List PV} {M : Mem} {Q : Option PV → Mem → Prop} {r : Nat} (hl : szL st ≤ 8) (hk : mK M r = 12) : WP (d + 1) 189 8 [l0, l1, l2] (vr r :: st) M Q = WP d 188 0 [some (vr r), none] [] M (fun v M' => WP (d + 1) 189 11 [l0, l1, l2] (psh v st) M' Q) := w_callV mC_189 d189_8 (ci := 12) rfl rfl rfl (Nat.le_of_ble_eq_true rfl) (by decide) rfl hl hk
theorem d189_11 : decode cX12_goesOn 11 = .ok (.iinc 2 1, 3) := by decide +kernel
theorem k189_11 {d : Nat} {x : Int32} {l0 l1 : Option PV} {st : List PV} {M : Mem} {Q : Option PV → Mem → Prop} : WP d 189 11 [l0, l1, some (vi x)] (st) M Q = WP d 189 14 [l0, l1, some (vi (x + 1))] (st) M Q := w_iinc mC_189 d189_11 rfl (by decide) rfl
theorem d189_14 : decode cX12_goesOn 14 = .ok (.goto (-12), 3) := by decide +kernel
theorem k189_14 {d : Nat} {l0 l1 l2 : Option PV} {st : List PV} {M : Mem} {Q : Option PV → Mem → Prop} : WP d 189 14 [l0, l1, l2] (st) M Q = WP d 189 2 [l0, l1, l2] (st) M Q := w_goto mC_189 d189_14 (by decide)
theorem d189_17 : decode cX12_goesOn 17 = .ok (.return_, 1) := by decide +kernel
theorem k189_17 {d : Nat} {l0 l1 l2 : Option PV} {M : Mem} {Q : Option PV → Mem → Prop} : WP d 189 17 [l0, l1, l2] ([]) M Q = Q none M := w_vret mC_189 d189_17 rfl
theorem d190_0 : decode cX12_keeps 0 = .ok (.iconst 0, 1) := by decide +kernel
theorem k190_0 {d : Nat} {l0 l1 l2 : Option PV} {st : List PV} {M : Mem} {Q : Option PV → Mem → Prop} : WP d 190 0 [l0, l1, l2] (st) M Q = WP d 190 1 [l0, l1, l2] (vi 0 :: st) M Q := w_iconst mC_190 d190_0 (by decide)
theorem d190_1 : decode cX12_keeps 1 = .ok (.istore_n 2, 1) := by decide +kernel
theorem k190_1 {d : Nat} {l0 l1 l2 : Option PV} {st : List PV} {M : Mem} {Q : Option PV → Mem → Prop} {x : Int32} : WP d 190 1 [l0, l1, l2] (vi x :: st) M Q = WP d 190 2 [l0, l1, some (vi x)] (st) M Q := w1 mC_190 d190_1 rfl rfl
theorem d190_2 : decode cX12_keeps 2 = .ok (.iload_n 2, 1) := by decide +kernel
theorem k190_2 {d : Nat} {x : Int32} {l0 l1 : Option PV} {st : List PV} {M : Mem} {Q : Option PV → Mem → Prop} : WP d 190 2 [l0, l1, some (vi x)] (st) M Q = WP d 190 3 [l0, l1, some (vi x)] (vi x :: st) M Q := w1 mC_190 d190_2 rfl rfl
theorem d190_3 : decode cX12_keeps 3 = .ok (.bipush 8, 2) := by decide +kernel
theorem k190_3 {d : Nat} {l0 l1 l2 : Option PV} {st : List PV} {M : Mem} {Q : Option PV → Mem → Prop} : WP d 190 3 [l0, l1, l2] (st) M Q = WP d 190 5 [l0, l1, l2] (vi 8 :: st) M Q := w_bipush mC_190 d190_3 (by decide)
theorem d190_5 : decode cX12_keeps 5 = .ok (.if_icmp .ge 66, 3) := by decide +kernel
theorem k190_5 {d : Nat} {l0 l1 l2 : Option PV} {st : List PV} {M : Mem} {Q : Option PV → Mem → Prop} {x y : Int32} : WP d 190 5 [l0, l1, l2] (vi y :: vi x :: st) M Q = (if y ≤ x then WP d 190 71 [l0, l1, l2] (st) M Q else WP d 190 8 [l0, l1, l2] (st) M Q) := w_ic_ge mC_190 d190_5 (by decide)
theorem d190_8 : decode cX12_keeps 8 = .ok (.aload_n 1, 1) := by decide +kernel
theorem k190_8 {d x : Nat} {l0 l2 : Option PV} {st : List PV} {M : Mem} {Q : Option PV → Mem → Prop} : WP d 190 8 [l0, some (vr x), l2] (st) M Q = WP d 190 9 [l0, some (vr x), l2] (vr x :: st) M Q := w1 mC_190 d190_8 rfl rfl
theorem d190_9 : decode cX12_keeps 9 = .ok (.iload_n 2, 1) := by decide +kernel
theorem k190_9 {d : Nat} {x : Int32} {l0 l1 : Option PV} {st : List PV} {M : Mem} {Q : Option PV → Mem → Prop} : WP d 190 9 [l0, l1, some (vi x)] (st) M Q = WP d 190 10 [l0, l1, some (vi x)] (vi x :: st) M Q := w1 mC_190 d190_9 rfl rfl
theorem d190_10 : decode cX12_keeps 10 = .ok (.aload_n 0, 1) := by decide +kernel
theorem k190_10 {d x : Nat} {l1 l2 : Option PV} {st : List PV} {M : Mem} {Q : Option PV → Mem → Prop} : WP d 190 10 [some (vr x), l1, l2] (st) M Q = WP d 190 11 [some (vr x), l1, l2] (vr x :: st) M Q := w1 mC_190 d190_10 rfl rfl
theorem d190_11 : decode cX12_keeps 11 = .ok (.getfield 9, 3) := by decide +kernel
theorem k190_11 {d : Nat} {l0 l1 l2 : Option PV} {st : List PV} {M : Mem} {Q : Option PV → Mem → Prop} {r : Nat} (hk : mK M r = 12) : WP d 190 11 [l0, l1, l2] (vr r :: st) M Q = WP d 190 14 [l0, l1, l2] (vr (mR M r 2) :: st) M Q := w_getr mC_190 d190_11 fE_12_9 rfl (by rw [hk]; rfl)
theorem d190_14 : decode cX12_keeps 14 = .ok (.bipush 8, 2) := by decide +kernel
theorem k190_14 {d : Nat} {l0 l1 l2 : Option PV} {st : List PV} {M : Mem} {Q : Option PV → Mem → Prop} : WP d 190 14 [l0, l1, l2] (st) M Q = WP d 190 16 [l0, l1, l2] (vi 8 :: st) M Q := w_bipush mC_190 d190_14 (by decide)
theorem d190_16 : decode cX12_keeps 16 = .ok (.iload_n 2, 1) := by decide +kernel
theorem k190_16 {d : Nat} {x : Int32} {l0 l1 : Option PV} {st : List PV} {M : Mem} {Q : Option PV → Mem → Prop} : WP d 190 16 [l0, l1, some (vi x)] (st) M Q = WP d 190 17 [l0, l1, some (vi x)] (vi x :: st) M Q := w1 mC_190 d190_16 rfl rfl
theorem d190_17 : decode cX12_keeps 17 = .ok (.iadd, 1) := by decide +kernel
theorem k190_17 {d : Nat} {l0 l1 l2 : Option PV} {st : List PV} {M : Mem} {Q : Option PV → Mem → Prop} {x y : Int32} : WP d 190 17 [l0, l1, l2] (vi y :: vi x :: st) M Q = WP d 190 18 [l0, l1, l2] (vi (x + y) :: st) M Q := w1 mC_190 d190_17 rfl rfl
theorem d190_18 : decode cX12_keeps 18 = .ok (.iaload, 1) := by decide +kernel
theorem k190_18 {d : Nat} {l0 l1 l2 : Option PV} {st : List PV} {M : Mem} {Q : Option PV → Mem → Prop} {r : Nat} {j : Int32} (hk : mK M r = 13) (hj : inb j (mN M r)) (h1 : r ≠ 1) : WP d 190 18 [l0, l1, l2] (vi j :: vr r :: st) M Q = WP d 190 19 [l0, l1, l2] (vi (mI M r (ix j)) :: st) M Q := w_iald mC_190 d190_18 (by decide) hk hj h1
theorem d190_19 : decode cX12_keeps 19 = .ok (.iastore, 1) := by decide +kernel
theorem k190_19 {d : Nat} {l0 l1 l2 : Option PV} {st : List PV} {M : Mem} {Q : Option PV → Mem → Prop} {r : Nat} {j x : Int32} (hk : mK M r = 13) (hj : inb j (mN M r)) (h1 : r ≠ 1) : WP d 190 19 [l0, l1, l2] (vi x :: vi j :: vr r :: st) M Q = WP d 190 20 [l0, l1, l2] (st) (sI M r (ix j) x) Q := w_iast mC_190 d190_19 hk hj h1
theorem d190_20 : decode cX12_keeps 20 = .ok (.aload_n 1, 1) := by decide +kernel
theorem k190_20 {d x : Nat} {l0 l2 : Option PV} {st : List PV} {M : Mem} {Q : Option PV → Mem → Prop} : WP d 190 20 [l0, some (vr x), l2] (st) M Q = WP d 190 21 [l0, some (vr x), l2] (vr x :: st) M Q := w1 mC_190 d190_20 rfl rfl
theorem d190_21 : decode cX12_keeps 21 = .ok (.bipush 8, 2) := by decide +kernel
theorem k190_21 {d : Nat} {l0 l1 l2 : Option PV} {st : List PV} {M : Mem} {Q : Option PV → Mem → Prop} : WP d 190 21 [l0, l1, l2] (st) M Q = WP d 190 23 [l0, l1, l2] (vi 8 :: st) M Q := w_bipush mC_190 d190_21 (by decide)
theorem d190_23 : decode cX12_keeps 23 = .ok (.iload_n 2, 1) := by decide +kernel
theorem k190_23 {d : Nat} {x : Int32} {l0 l1 : Option PV} {st : List PV} {M : Mem} {Q : Option PV → Mem → Prop} : WP d 190 23 [l0, l1, some (vi x)] (st) M Q = WP d 190 24 [l0, l1, some (vi x)] (vi x :: st) M Q := w1 mC_190 d190_23 rfl rfl
theorem d190_24 : decode cX12_keeps 24 = .ok (.iadd, 1) := by decide +kernel
theorem k190_24 {d : Nat} {l0 l1 l2 : Option PV} {st : List PV} {M : Mem} {Q : Option PV → Mem → Prop} {x y : Int32} : WP d 190 24 [l0, l1, l2] (vi y :: vi x :: st) M Q = WP d 190 25 [l0, l1, l2] (vi (x + y) :: st) M Q := w1 mC_190 d190_24 rfl rfl
theorem d190_25 : decode cX12_keeps 25 = .ok (.aload_n 0, 1) := by decide +kernel
theorem k190_25 {d x : Nat} {l1 l2 : Option PV} {st : List PV} {M : Mem} {Q : Option PV → Mem → Prop} : WP d 190 25 [some (vr x), l1, l2] (st) M Q = WP d 190 26 [some (vr x), l1, l2] (vr x :: st) M Q := w1 mC_190 d190_25 rfl rfl
theorem d190_26 : decode cX12_keeps 26 = .ok (.getfield 9, 3) := by decide +kernel
theorem k190_26 {d : Nat} {l0 l1 l2 : Option PV} {st : List PV} {M : Mem} {Q : Option PV → Mem → Prop} {r : Nat} (hk : mK M r = 12) : WP d 190 26 [l0, l1, l2] (vr r :: st) M Q = WP d 190 29 [l0, l1, l2] (vr (mR M r 2) :: st) M Q := w_getr mC_190 d190_26 fE_12_9 rfl (by rw [hk]; rfl)
theorem d190_29 : decode cX12_keeps 29 = .ok (.bipush 16, 2) := by decide +kernel
theorem k190_29 {d : Nat} {l0 l1 l2 : Option PV} {st : List PV} {M : Mem} {Q : Option PV → Mem → Prop} : WP d 190 29 [l0, l1, l2] (st) M Q = WP d 190 31 [l0, l1, l2] (vi 16 :: st) M Q := w_bipush mC_190 d190_29 (by decide)
theorem d190_31 : decode cX12_keeps 31 = .ok (.iload_n 2, 1) := by decide +kernel
theorem k190_31 {d : Nat} {x : Int32} {l0 l1 : Option PV} {st : List PV} {M : Mem} {Q : Option PV → Mem → Prop} : WP d 190 31 [l0, l1, some (vi x)] (st) M Q = WP d 190 32 [l0, l1, some (vi x)] (vi x :: st) M Q := w1 mC_190 d190_31 rfl rfl
theorem d190_32 : decode cX12_keeps 32 = .ok (.iadd, 1) := by decide +kernel
theorem k190_32 {d : Nat} {l0 l1 l2 : Option PV} {st : List PV} {M : Mem} {Q : Option PV → Mem → Prop} {x y : Int32} : WP d 190 32 [l0, l1, l2] (vi y :: vi x :: st) M Q = WP d 190 33 [l0, l1, l2] (vi (x + y) :: st) M Q := w1 mC_190 d190_32 rfl rfl
theorem d190_33 : decode cX12_keeps 33 = .ok (.iaload, 1) := by decide +kernel
theorem k190_33 {d : Nat} {l0 l1 l2 : Option PV} {st : List PV} {M : Mem} {Q : Option PV → Mem → Prop} {r : Nat} {j : Int32} (hk : mK M r = 13) (hj : inb j (mN M r)) (h1 : r ≠ 1) : WP d 190 33 [l0, l1, l2] (vi j :: vr r :: st) M Q = WP d 190 34 [l0, l1, l2] (vi (mI M r (ix j)) :: st) M Q := w_iald mC_190 d190_33 (by decide) hk hj h1
theorem d190_34 : decode cX12_keeps 34 = .ok (.iastore, 1) := by decide +kernel
theorem k190_34 {d : Nat} {l0 l1 l2 : Option PV} {st : List PV} {M : Mem} {Q : Option PV → Mem → Prop} {r : Nat} {j x : Int32} (hk : mK M r = 13) (hj : inb j (mN M r)) (h1 : r ≠ 1) : WP d 190 34 [l0, l1, l2] (vi x :: vi j :: vr r :: st) M Q = WP d 190 35 [l0, l1, l2] (st) (sI M r (ix j) x) Q := w_iast mC_190 d190_34 hk hj h1
theorem d190_35 : decode cX12_keeps 35 = .ok (.aload_n 1, 1) := by decide +kernel
theorem k190_35 {d x : Nat} {l0 l2 : Option PV} {st : List PV} {M : Mem} {Q : Option PV → Mem → Prop} : WP d 190 35 [l0, some (vr x), l2] (st) M Q = WP d 190 36 [l0, some (vr x), l2] (vr x :: st) M Q := w1 mC_190 d190_35 rfl rfl
theorem d190_36 : decode cX12_keeps 36 = .ok (.bipush 16, 2) := by decide +kernel
theorem k190_36 {d : Nat} {l0 l1 l2 : Option PV} {st : List PV} {M : Mem} {Q : Option PV → Mem → Prop} : WP d 190 36 [l0, l1, l2] (st) M Q = WP d 190 38 [l0, l1, l2] (vi 16 :: st) M Q := w_bipush mC_190 d190_36 (by decide)
theorem d190_38 : decode cX12_keeps 38 = .ok (.iload_n 2, 1) := by decide +kernel
theorem k190_38 {d : Nat} {x : Int32} {l0 l1 : Option PV} {st : List PV} {M : Mem} {Q : Option PV → Mem → Prop} : WP d 190 38 [l0, l1, some (vi x)] (st) M Q = WP d 190 39 [l0, l1, some (vi x)] (vi x :: st) M Q := w1 mC_190 d190_38 rfl rfl
theorem d190_39 : decode cX12_keeps 39 = .ok (.iadd, 1) := by decide +kernel
theorem k190_39 {d : Nat} {l0 l1 l2 : Option PV} {st : List PV} {M : Mem} {Q : Option PV → Mem → Prop} {x y : Int32} : WP d 190 39 [l0, l1, l2] (vi y :: vi x :: st) M Q = WP d 190 40 [l0, l1, l2] (vi (x + y) :: st) M Q := w1 mC_190 d190_39 rfl rfl
theorem d190_40 : decode cX12_keeps 40 = .ok (.aload_n 0, 1) := by decide +kernel
theorem k190_40 {d x : Nat} {l1 l2 : Option PV} {st : List PV} {M : Mem} {Q : Option PV → Mem → Prop} : WP d 190 40 [some (vr x), l1, l2] (st) M Q = WP d 190 41 [some (vr x), l1, l2] (vr x :: st) M Q := w1 mC_190 d190_40 rfl rfl
theorem d190_41 : decode cX12_keeps 41 = .ok (.getfield 9, 3) := by decide +kernel
theorem k190_41 {d : Nat} {l0 l1 l2 : Option PV} {st : List PV} {M : Mem} {Q : Option PV → Mem → Prop} {r : Nat} (hk : mK M r = 12) : WP d 190 41 [l0, l1, l2] (vr r :: st) M Q = WP d 190 44 [l0, l1, l2] (vr (mR M r 2) :: st) M Q := w_getr mC_190 d190_41 fE_12_9 rfl (by rw [hk]; rfl)
theorem d190_44 : decode cX12_keeps 44 = .ok (.bipush 32, 2) := by decide +kernel
theorem k190_44 {d : Nat} {l0 l1 l2 : Option PV} {st : List PV} {M : Mem} {Q : Option PV → Mem → Prop} : WP d 190 44 [l0, l1, l2] (st) M Q = WP d 190 46 [l0, l1, l2] (vi 32 :: st) M Q := w_bipush mC_190 d190_44 (by decide)
theorem d190_46 : decode cX12_keeps 46 = .ok (.iload_n 2, 1) := by decide +kernel
theorem k190_46 {d : Nat} {x : Int32} {l0 l1 : Option PV} {st : List PV} {M : Mem} {Q : Option PV → Mem → Prop} : WP d 190 46 [l0, l1, some (vi x)] (st) M Q = WP d 190 47 [l0, l1, some (vi x)] (vi x :: st) M Q := w1 mC_190 d190_46 rfl rfl
theorem d190_47 : decode cX12_keeps 47 = .ok (.iadd, 1) := by decide +kernel
theorem k190_47 {d : Nat} {l0 l1 l2 : Option PV} {st : List PV} {M : Mem} {Q : Option PV → Mem → Prop} {x y : Int32} : WP d 190 47 [l0, l1, l2] (vi y :: vi x :: st) M Q = WP d 190 48 [l0, l1, l2] (vi (x + y) :: st) M Q := w1 mC_190 d190_47 rfl rfl
theorem d190_48 : decode cX12_keeps 48 = .ok (.iaload, 1) := by decide +kernel
theorem k190_48 {d : Nat} {l0 l1 l2 : Option PV} {st : List PV} {M : Mem} {Q : Option PV → Mem → Prop} {r : Nat} {j : Int32} (hk : mK M r = 13) (hj : inb j (mN M r)) (h1 : r ≠ 1) : WP d 190 48 [l0, l1, l2] (vi j :: vr r :: st) M Q = WP d 190 49 [l0, l1, l2] (vi (mI M r (ix j)) :: st) M Q := w_iald mC_190 d190_48 (by decide) hk hj h1
theorem d190_49 : decode cX12_keeps 49 = .ok (.iastore, 1) := by decide +kernel
theorem k190_49 {d : Nat} {l0 l1 l2 : Option PV} {st : List PV} {M : Mem} {Q : Option PV → Mem → Prop} {r : Nat} {j x : Int32} (hk : mK M r = 13) (hj : inb j (mN M r)) (h1 : r ≠ 1) : WP d 190 49 [l0, l1, l2] (vi x :: vi j :: vr r :: st) M Q = WP d 190 50 [l0, l1, l2] (st) (sI M r (ix j) x) Q := w_iast mC_190 d190_49 hk hj h1
theorem d190_50 : decode cX12_keeps 50 = .ok (.aload_n 1, 1) := by decide +kernel
theorem k190_50 {d x : Nat} {l0 l2 : Option PV} {st : List PV} {M : Mem} {Q : Option PV → Mem → Prop} : WP d 190 50 [l0, some (vr x), l2] (st) M Q = WP d 190 51 [l0, some (vr x), l2] (vr x :: st) M Q := w1 mC_190 d190_50 rfl rfl
theorem d190_51 : decode cX12_keeps 51 = .ok (.bipush 24, 2) := by decide +kernel
theorem k190_51 {d : Nat} {l0 l1 l2 : Option PV} {st : List PV} {M : Mem} {Q : Option PV → Mem → Prop} : WP d 190 51 [l0, l1, l2] (st) M Q = WP d 190 53 [l0, l1, l2] (vi 24 :: st) M Q := w_bipush mC_190 d190_51 (by decide)
theorem d190_53 : decode cX12_keeps 53 = .ok (.iload_n 2, 1) := by decide +kernel
theorem k190_53 {d : Nat} {x : Int32} {l0 l1 : Option PV} {st : List PV} {M : Mem} {Q : Option PV → Mem → Prop} : WP d 190 53 [l0, l1, some (vi x)] (st) M Q = WP d 190 54 [l0, l1, some (vi x)] (vi x :: st) M Q := w1 mC_190 d190_53 rfl rfl
theorem d190_54 : decode cX12_keeps 54 = .ok (.iadd, 1) := by decide +kernel
theorem k190_54 {d : Nat} {l0 l1 l2 : Option PV} {st : List PV} {M : Mem} {Q : Option PV → Mem → Prop} {x y : Int32} : WP d 190 54 [l0, l1, l2] (vi y :: vi x :: st) M Q = WP d 190 55 [l0, l1, l2] (vi (x + y) :: st) M Q := w1 mC_190 d190_54 rfl rfl
theorem d190_55 : decode cX12_keeps 55 = .ok (.aload_n 0, 1) := by decide +kernel
theorem k190_55 {d x : Nat} {l1 l2 : Option PV} {st : List PV} {M : Mem} {Q : Option PV → Mem → Prop} : WP d 190 55 [some (vr x), l1, l2] (st) M Q = WP d 190 56 [some (vr x), l1, l2] (vr x :: st) M Q := w1 mC_190 d190_55 rfl rfl
theorem d190_56 : decode cX12_keeps 56 = .ok (.getfield 9, 3) := by decide +kernel
theorem k190_56 {d : Nat} {l0 l1 l2 : Option PV} {st : List PV} {M : Mem} {Q : Option PV → Mem → Prop} {r : Nat} (hk : mK M r = 12) : WP d 190 56 [l0, l1, l2] (vr r :: st) M Q = WP d 190 59 [l0, l1, l2] (vr (mR M r 2) :: st) M Q := w_getr mC_190 d190_56 fE_12_9 rfl (by rw [hk]; rfl)
theorem d190_59 : decode cX12_keeps 59 = .ok (.bipush 40, 2) := by decide +kernel
theorem k190_59 {d : Nat} {l0 l1 l2 : Option PV} {st : List PV} {M : Mem} {Q : Option PV → Mem → Prop} : WP d 190 59 [l0, l1, l2] (st) M Q = WP d 190 61 [l0, l1, l2] (vi 40 :: st) M Q := w_bipush mC_190 d190_59 (by decide)
theorem d190_61 : decode cX12_keeps 61 = .ok (.iload_n 2, 1) := by decide +kernel
theorem k190_61 {d : Nat} {x : Int32} {l0 l1 : Option PV} {st : List PV} {M : Mem} {Q : Option PV → Mem → Prop} : WP d 190 61 [l0, l1, some (vi x)] (st) M Q = WP d 190 62 [l0, l1, some (vi x)] (vi x :: st) M Q := w1 mC_190 d190_61 rfl rfl
theorem d190_62 : decode cX12_keeps 62 = .ok (.iadd, 1) := by decide +kernel
theorem k190_62 {d : Nat} {l0 l1 l2 : Option PV} {st : List PV} {M : Mem} {Q : Option PV → Mem → Prop} {x y : Int32} : WP d 190 62 [l0, l1, l2] (vi y :: vi x :: st) M Q = WP d 190 63 [l0, l1, l2] (vi (x + y) :: st) M Q := w1 mC_190 d190_62 rfl rfl
theorem d190_63 : decode cX12_keeps 63 = .ok (.iaload, 1) := by decide +kernel
theorem k190_63 {d : Nat} {l0 l1 l2 : Option PV} {st : List PV} {M : Mem} {Q : Option PV → Mem → Prop} {r : Nat} {j : Int32} (hk : mK M r = 13) (hj : inb j (mN M r)) (h1 : r ≠ 1) : WP d 190 63 [l0, l1, l2] (vi j :: vr r :: st) M Q = WP d 190 64 [l0, l1, l2] (vi (mI M r (ix j)) :: st) M Q := w_iald mC_190 d190_63 (by decide) hk hj h1
theorem d190_64 : decode cX12_keeps 64 = .ok (.iastore, 1) := by decide +kernel
theorem k190_64 {d : Nat} {l0 l1 l2 : Option PV} {st : List PV} {M : Mem} {Q : Option PV → Mem → Prop} {r : Nat} {j x : Int32} (hk : mK M r = 13) (hj : inb j (mN M r)) (h1 : r ≠ 1) : WP d 190 64 [l0, l1, l2] (vi x :: vi j :: vr r :: st) M Q = WP d 190 65 [l0, l1, l2] (st) (sI M r (ix j) x) Q := w_iast mC_190 d190_64 hk hj h1
theorem d190_65 : decode cX12_keeps 65 = .ok (.iinc 2 1, 3) := by decide +kernel
theorem k190_65 {d : Nat} {x : Int32} {l0 l1 : Option PV} {st : List PV} {M : Mem} {Q : Option PV → Mem → Prop} : WP d 190 65 [l0, l1, some (vi x)] (st) M Q = WP d 190 68 [l0, l1, some (vi (x + 1))] (st) M Q := w_iinc mC_190 d190_65 rfl (by decide) rfl
theorem d190_68 : decode cX12_keeps 68 = .ok (.goto (-66), 3) := by decide +kernel
theorem k190_68 {d : Nat} {l0 l1 l2 : Option PV} {st : List PV} {M : Mem} {Q : Option PV → Mem → Prop} : WP d 190 68 [l0, l1, l2] (st) M Q = WP d 190 2 [l0, l1, l2] (st) M Q := w_goto mC_190 d190_68 (by decide)
theorem d190_71 : decode cX12_keeps 71 = .ok (.aload_n 1, 1) := by decide +kernel
theorem k190_71 {d x : Nat} {l0 l2 : Option PV} {st : List PV} {M : Mem} {Q : Option PV → Mem → Prop} : WP d 190 71 [l0, some (vr x), l2] (st) M Q = WP d 190 72 [l0, some (vr x), l2] (vr x :: st) M Q := w1 mC_190 d190_71 rfl rfl
theorem d190_72 : decode cX12_keeps 72 = .ok (.bipush 32, 2) := by decide +kernel
theorem k190_72 {d : Nat} {l0 l1 l2 : Option PV} {st : List PV} {M : Mem} {Q : Option PV → Mem → Prop} : WP d 190 72 [l0, l1, l2] (st) M Q = WP d 190 74 [l0, l1, l2] (vi 32 :: st) M Q := w_bipush mC_190 d190_72 (by decide)
theorem d190_74 : decode cX12_keeps 74 = .ok (.aload_n 0, 1) := by decide +kernel
theorem k190_74 {d x : Nat} {l1 l2 : Option PV} {st : List PV} {M : Mem} {Q : Option PV → Mem → Prop} : WP d 190 74 [some (vr x), l1, l2] (st) M Q = WP d 190 75 [some (vr x), l1, l2] (vr x :: st) M Q := w1 mC_190 d190_74 rfl rfl
theorem d190_75 : decode cX12_keeps 75 = .ok (.getfield 15, 3) := by decide +kernel
theorem k190_75 {d : Nat} {l0 l1 l2 : Option PV} {st : List PV} {M : Mem} {Q : Option PV → Mem → Prop} {r : Nat} (hk : mK M r = 12) : WP d 190 75 [l0, l1, l2] (vr r :: st) M Q = WP d 190 78 [l0, l1, l2] (vr (mR M r 3) :: st) M Q := w_getr mC_190 d190_75 fE_12_15 rfl (by rw [hk]; rfl)
theorem d190_78 : decode cX12_keeps 78 = .ok (.iconst 1, 1) := by decide +kernel
theorem k190_78 {d : Nat} {l0 l1 l2 : Option PV} {st : List PV} {M : Mem} {Q : Option PV → Mem → Prop} : WP d 190 78 [l0, l1, l2] (st) M Q = WP d 190 79 [l0, l1, l2] (vi 1 :: st) M Q := w_iconst mC_190 d190_78 (by decide)
theorem d190_79 : decode cX12_keeps 79 = .ok (.iaload, 1) := by decide +kernel
theorem k190_79 {d : Nat} {l0 l1 l2 : Option PV} {st : List PV} {M : Mem} {Q : Option PV → Mem → Prop} {r : Nat} {j : Int32} (hk : mK M r = 13) (hj : inb j (mN M r)) (h1 : r ≠ 1) : WP d 190 79 [l0, l1, l2] (vi j :: vr r :: st) M Q = WP d 190 80 [l0, l1, l2] (vi (mI M r (ix j)) :: st) M Q := w_iald mC_190 d190_79 (by decide) hk hj h1
theorem d190_80 : decode cX12_keeps 80 = .ok (.iastore, 1) := by decide +kernel
theorem k190_80 {d : Nat} {l0 l1 l2 : Option PV} {st : List PV} {M : Mem} {Q : Option PV → Mem → Prop} {r : Nat} {j x : Int32} (hk : mK M r = 13) (hj : inb j (mN M r)) (h1 : r ≠ 1) : WP d 190 80 [l0, l1, l2] (vi x :: vi j :: vr r :: st) M Q = WP d 190 81 [l0, l1, l2] (st) (sI M r (ix j) x) Q := w_iast mC_190 d190_80 hk hj h1
theorem d190_81 : decode cX12_keeps 81 = .ok (.return_, 1) := by decide +kernel
theorem k190_81 {d : Nat} {l0 l1 l2 : Option PV} {M : Mem} {Q : Option PV → Mem → Prop} : WP d 190 81 [l0, l1, l2] ([]) M Q = Q none M := w_vret mC_190 d190_81 rfl
theorem d191_0 : decode cX12_laysBack 0 = .ok (.iconst 0, 1) := by decide +kernel
theorem k191_0 {d : Nat} {l0 l1 l2 l3 l4 : Option PV} {st : List PV} {M : Mem} {Q : Option PV → Mem → Prop} : WP d 191 0 [l0, l1, l2, l3, l4] (st) M Q = WP d 191 1 [l0, l1, l2, l3, l4] (vi 0 :: st) M Q := w_iconst mC_191 d191_0 (by decide)
theorem d191_1 : decode cX12_laysBack 1 = .ok (.istore 4, 2) := by decide +kernel
theorem k191_1 {d : Nat} {l0 l1 l2 l3 l4 : Option PV} {st : List PV} {M : Mem} {Q : Option PV → Mem → Prop} {x : Int32} : WP d 191 1 [l0, l1, l2, l3, l4] (vi x :: st) M Q = WP d 191 3 [l0, l1, l2, l3, some (vi x)] (st) M Q := w1 mC_191 d191_1 rfl rfl
theorem d191_3 : decode cX12_laysBack 3 = .ok (.iload 4, 2) := by decide +kernel
theorem k191_3 {d : Nat} {x : Int32} {l0 l1 l2 l3 : Option PV} {st : List PV} {M : Mem} {Q : Option PV → Mem → Prop} : WP d 191 3 [l0, l1, l2, l3, some (vi x)] (st) M Q = WP d 191 5 [l0, l1, l2, l3, some (vi x)] (vi x :: st) M Q := w1 mC_191 d191_3 rfl rfl
theorem d191_5 : decode cX12_laysBack 5 = .ok (.iload_n 2, 1) := by decide +kernel
theorem k191_5 {d : Nat} {x : Int32} {l0 l1 l3 l4 : Option PV} {st : List PV} {M : Mem} {Q : Option PV → Mem → Prop} : WP d 191 5 [l0, l1, some (vi x), l3, l4] (st) M Q = WP d 191 6 [l0, l1, some (vi x), l3, l4] (vi x :: st) M Q := w1 mC_191 d191_5 rfl rfl
theorem d191_6 : decode cX12_laysBack 6 = .ok (.if_icmp .ge 23, 3) := by decide +kernel
theorem k191_6 {d : Nat} {l0 l1 l2 l3 l4 : Option PV} {st : List PV} {M : Mem} {Q : Option PV → Mem → Prop} {x y : Int32} : WP d 191 6 [l0, l1, l2, l3, l4] (vi y :: vi x :: st) M Q = (if y ≤ x then WP d 191 29 [l0, l1, l2, l3, l4] (st) M Q else WP d 191 9 [l0, l1, l2, l3, l4] (st) M Q) := w_ic_ge mC_191 d191_6 (by decide)
theorem d191_9 : decode cX12_laysBack 9 = .ok (.aload_n 0, 1) := by decide +kernel
theorem k191_9 {d x : Nat} {l1 l2 l3 l4 : Option PV} {st : List PV} {M : Mem} {Q : Option PV → Mem → Prop} : WP d 191 9 [some (vr x), l1, l2, l3, l4] (st) M Q = WP d 191 10 [some (vr x), l1, l2, l3, l4] (vr x :: st) M Q := w1 mC_191 d191_9 rfl rfl
theorem d191_10 : decode cX12_laysBack 10 = .ok (.getfield 9, 3) := by decide +kernel
theorem k191_10 {d : Nat} {l0 l1 l2 l3 l4 : Option PV} {st : List PV} {M : Mem} {Q : Option PV → Mem → Prop} {r : Nat} (hk : mK M r = 12) : WP d 191 10 [l0, l1, l2, l3, l4] (vr r :: st) M Q = WP d 191 13 [l0, l1, l2, l3, l4] (vr (mR M r 2) :: st) M Q := w_getr mC_191 d191_10 fE_12_9 rfl (by rw [hk]; rfl)
theorem d191_13 : decode cX12_laysBack 13 = .ok (.bipush 8, 2) := by decide +kernel
theorem k191_13 {d : Nat} {l0 l1 l2 l3 l4 : Option PV} {st : List PV} {M : Mem} {Q : Option PV → Mem → Prop} : WP d 191 13 [l0, l1, l2, l3, l4] (st) M Q = WP d 191 15 [l0, l1, l2, l3, l4] (vi 8 :: st) M Q := w_bipush mC_191 d191_13 (by decide)
theorem d191_15 : decode cX12_laysBack 15 = .ok (.iload 4, 2) := by decide +kernel
theorem k191_15 {d : Nat} {x : Int32} {l0 l1 l2 l3 : Option PV} {st : List PV} {M : Mem} {Q : Option PV → Mem → Prop} : WP d 191 15 [l0, l1, l2, l3, some (vi x)] (st) M Q = WP d 191 17 [l0, l1, l2, l3, some (vi x)] (vi x :: st) M Q := w1 mC_191 d191_15 rfl rfl
theorem d191_17 : decode cX12_laysBack 17 = .ok (.iadd, 1) := by decide +kernel
theorem k191_17 {d : Nat} {l0 l1 l2 l3 l4 : Option PV} {st : List PV} {M : Mem} {Q : Option PV → Mem → Prop} {x y : Int32} : WP d 191 17 [l0, l1, l2, l3, l4] (vi y :: vi x :: st) M Q = WP d 191 18 [l0, l1, l2, l3, l4] (vi (x + y) :: st) M Q := w1 mC_191 d191_17 rfl rfl
theorem d191_18 : decode cX12_laysBack 18 = .ok (.aload_n 1, 1) := by decide +kernel
theorem k191_18 {d x : Nat} {l0 l2 l3 l4 : Option PV} {st : List PV} {M : Mem} {Q : Option PV → Mem → Prop} : WP d 191 18 [l0, some (vr x), l2, l3, l4] (st) M Q = WP d 191 19 [l0, some (vr x), l2, l3, l4] (vr x :: st) M Q := w1 mC_191 d191_18 rfl rfl
theorem d191_19 : decode cX12_laysBack 19 = .ok (.iload 4, 2) := by decide +kernel
theorem k191_19 {d : Nat} {x : Int32} {l0 l1 l2 l3 : Option PV} {st : List PV} {M : Mem} {Q : Option PV → Mem → Prop} : WP d 191 19 [l0, l1, l2, l3, some (vi x)] (st) M Q = WP d 191 21 [l0, l1, l2, l3, some (vi x)] (vi x :: st) M Q := w1 mC_191 d191_19 rfl rfl
theorem d191_21 : decode cX12_laysBack 21 = .ok (.iaload, 1) := by decide +kernel
theorem k191_21 {d : Nat} {l0 l1 l2 l3 l4 : Option PV} {st : List PV} {M : Mem} {Q : Option PV → Mem → Prop} {r : Nat} {j : Int32} (hk : mK M r = 13) (hj : inb j (mN M r)) (h1 : r ≠ 1) : WP d 191 21 [l0, l1, l2, l3, l4] (vi j :: vr r :: st) M Q = WP d 191 22 [l0, l1, l2, l3, l4] (vi (mI M r (ix j)) :: st) M Q := w_iald mC_191 d191_21 (by decide) hk hj h1
theorem d191_22 : decode cX12_laysBack 22 = .ok (.iastore, 1) := by decide +kernel
theorem k191_22 {d : Nat} {l0 l1 l2 l3 l4 : Option PV} {st : List PV} {M : Mem} {Q : Option PV → Mem → Prop} {r : Nat} {j x : Int32} (hk : mK M r = 13) (hj : inb j (mN M r)) (h1 : r ≠ 1) : WP d 191 22 [l0, l1, l2, l3, l4] (vi x :: vi j :: vr r :: st) M Q = WP d 191 23 [l0, l1, l2, l3, l4] (st) (sI M r (ix j) x) Q := w_iast mC_191 d191_22 hk hj h1
theorem d191_23 : decode cX12_laysBack 23 = .ok (.iinc 4 1, 3) := by decide +kernel
theorem k191_23 {d : Nat} {x : Int32} {l0 l1 l2 l3 : Option PV} {st : List PV} {M : Mem} {Q : Option PV → Mem → Prop} : WP d 191 23 [l0, l1, l2, l3, some (vi x)] (st) M Q = WP d 191 26 [l0, l1, l2, l3, some (vi (x + 1))] (st) M Q := w_iinc mC_191 d191_23 rfl (by decide) rfl
theorem d191_26 : decode cX12_laysBack 26 = .ok (.goto (-23), 3) := by decide +kernel
theorem k191_26 {d : Nat} {l0 l1 l2 l3 l4 : Option PV} {st : List PV} {M : Mem} {Q : Option PV → Mem → Prop} : WP d 191 26 [l0, l1, l2, l3, l4] (st) M Q = WP d 191 3 [l0, l1, l2, l3, l4] (st) M Q := w_goto mC_191 d191_26 (by decide)
theorem d191_29 : decode cX12_laysBack 29 = .ok (.iconst 0, 1) := by decide +kernel
theorem k191_29 {d : Nat} {l0 l1 l2 l3 l4 : Option PV} {st : List PV} {M : Mem} {Q : Option PV → Mem → Prop} : WP d 191 29 [l0, l1, l2, l3, l4] (st) M Q = WP d 191 30 [l0, l1, l2, l3, l4] (vi 0 :: st) M Q := w_iconst mC_191 d191_29 (by decide)
theorem d191_30 : decode cX12_laysBack 30 = .ok (.istore 4, 2) := by decide +kernel
theorem k191_30 {d : Nat} {l0 l1 l2 l3 l4 : Option PV} {st : List PV} {M : Mem} {Q : Option PV → Mem → Prop} {x : Int32} : WP d 191 30 [l0, l1, l2, l3, l4] (vi x :: st) M Q = WP d 191 32 [l0, l1, l2, l3, some (vi x)] (st) M Q := w1 mC_191 d191_30 rfl rfl
theorem d191_32 : decode cX12_laysBack 32 = .ok (.iload 4, 2) := by decide +kernel
theorem k191_32 {d : Nat} {x : Int32} {l0 l1 l2 l3 : Option PV} {st : List PV} {M : Mem} {Q : Option PV → Mem → Prop} : WP d 191 32 [l0, l1, l2, l3, some (vi x)] (st) M Q = WP d 191 34 [l0, l1, l2, l3, some (vi x)] (vi x :: st) M Q := w1 mC_191 d191_32 rfl rfl
theorem d191_34 : decode cX12_laysBack 34 = .ok (.iload_n 3, 1) := by decide +kernel
theorem k191_34 {d : Nat} {x : Int32} {l0 l1 l2 l4 : Option PV} {st : List PV} {M : Mem} {Q : Option PV → Mem → Prop} : WP d 191 34 [l0, l1, l2, some (vi x), l4] (st) M Q = WP d 191 35 [l0, l1, l2, some (vi x), l4] (vi x :: st) M Q := w1 mC_191 d191_34 rfl rfl
theorem d191_35 : decode cX12_laysBack 35 = .ok (.if_icmp .ge 60, 3) := by decide +kernel
theorem k191_35 {d : Nat} {l0 l1 l2 l3 l4 : Option PV} {st : List PV} {M : Mem} {Q : Option PV → Mem → Prop} {x y : Int32} : WP d 191 35 [l0, l1, l2, l3, l4] (vi y :: vi x :: st) M Q = (if y ≤ x then WP d 191 95 [l0, l1, l2, l3, l4] (st) M Q else WP d 191 38 [l0, l1, l2, l3, l4] (st) M Q) := w_ic_ge mC_191 d191_35 (by decide)
theorem d191_38 : decode cX12_laysBack 38 = .ok (.aload_n 0, 1) := by decide +kernel
theorem k191_38 {d x : Nat} {l1 l2 l3 l4 : Option PV} {st : List PV} {M : Mem} {Q : Option PV → Mem → Prop} : WP d 191 38 [some (vr x), l1, l2, l3, l4] (st) M Q = WP d 191 39 [some (vr x), l1, l2, l3, l4] (vr x :: st) M Q := w1 mC_191 d191_38 rfl rfl
theorem d191_39 : decode cX12_laysBack 39 = .ok (.getfield 9, 3) := by decide +kernel
theorem k191_39 {d : Nat} {l0 l1 l2 l3 l4 : Option PV} {st : List PV} {M : Mem} {Q : Option PV → Mem → Prop} {r : Nat} (hk : mK M r = 12) : WP d 191 39 [l0, l1, l2, l3, l4] (vr r :: st) M Q = WP d 191 42 [l0, l1, l2, l3, l4] (vr (mR M r 2) :: st) M Q := w_getr mC_191 d191_39 fE_12_9 rfl (by rw [hk]; rfl)
theorem d191_42 : decode cX12_laysBack 42 = .ok (.bipush 16, 2) := by decide +kernel
theorem k191_42 {d : Nat} {l0 l1 l2 l3 l4 : Option PV} {st : List PV} {M : Mem} {Q : Option PV → Mem → Prop} : WP d 191 42 [l0, l1, l2, l3, l4] (st) M Q = WP d 191 44 [l0, l1, l2, l3, l4] (vi 16 :: st) M Q := w_bipush mC_191 d191_42 (by decide)
theorem d191_44 : decode cX12_laysBack 44 = .ok (.iload 4, 2) := by decide +kernel
theorem k191_44 {d : Nat} {x : Int32} {l0 l1 l2 l3 : Option PV} {st : List PV} {M : Mem} {Q : Option PV → Mem → Prop} : WP d 191 44 [l0, l1, l2, l3, some (vi x)] (st) M Q = WP d 191 46 [l0, l1, l2, l3, some (vi x)] (vi x :: st) M Q := w1 mC_191 d191_44 rfl rfl
theorem d191_46 : decode cX12_laysBack 46 = .ok (.iadd, 1) := by decide +kernel
theorem k191_46 {d : Nat} {l0 l1 l2 l3 l4 : Option PV} {st : List PV} {M : Mem} {Q : Option PV → Mem → Prop} {x y : Int32} : WP d 191 46 [l0, l1, l2, l3, l4] (vi y :: vi x :: st) M Q = WP d 191 47 [l0, l1, l2, l3, l4] (vi (x + y) :: st) M Q := w1 mC_191 d191_46 rfl rfl
theorem d191_47 : decode cX12_laysBack 47 = .ok (.aload_n 1, 1) := by decide +kernel
theorem k191_47 {d x : Nat} {l0 l2 l3 l4 : Option PV} {st : List PV} {M : Mem} {Q : Option PV → Mem → Prop} : WP d 191 47 [l0, some (vr x), l2, l3, l4] (st) M Q = WP d 191 48 [l0, some (vr x), l2, l3, l4] (vr x :: st) M Q := w1 mC_191 d191_47 rfl rfl
theorem d191_48 : decode cX12_laysBack 48 = .ok (.bipush 8, 2) := by decide +kernel
theorem k191_48 {d : Nat} {l0 l1 l2 l3 l4 : Option PV} {st : List PV} {M : Mem} {Q : Option PV → Mem → Prop} : WP d 191 48 [l0, l1, l2, l3, l4] (st) M Q = WP d 191 50 [l0, l1, l2, l3, l4] (vi 8 :: st) M Q := w_bipush mC_191 d191_48 (by decide)
theorem d191_50 : decode cX12_laysBack 50 = .ok (.iload 4, 2) := by decide +kernel
theorem k191_50 {d : Nat} {x : Int32} {l0 l1 l2 l3 : Option PV} {st : List PV} {M : Mem} {Q : Option PV → Mem → Prop} : WP d 191 50 [l0, l1, l2, l3, some (vi x)] (st) M Q = WP d 191 52 [l0, l1, l2, l3, some (vi x)] (vi x :: st) M Q := w1 mC_191 d191_50 rfl rfl
theorem d191_52 : decode cX12_laysBack 52 = .ok (.iadd, 1) := by decide +kernel
theorem k191_52 {d : Nat} {l0 l1 l2 l3 l4 : Option PV} {st : List PV} {M : Mem} {Q : Option PV → Mem → Prop} {x y : Int32} : WP d 191 52 [l0, l1, l2, l3, l4] (vi y :: vi x :: st) M Q = WP d 191 53 [l0, l1, l2, l3, l4] (vi (x + y) :: st) M Q := w1 mC_191 d191_52 rfl rfl
theorem d191_53 : decode cX12_laysBack 53 = .ok (.iaload, 1) := by decide +kernel
theorem k191_53 {d : Nat} {l0 l1 l2 l3 l4 : Option PV} {st : List PV} {M : Mem} {Q : Option PV → Mem → Prop} {r : Nat} {j : Int32} (hk : mK M r = 13) (hj : inb j (mN M r)) (h1 : r ≠ 1) : WP d 191 53 [l0, l1, l2, l3, l4] (vi j :: vr r :: st) M Q = WP d 191 54 [l0, l1, l2, l3, l4] (vi (mI M r (ix j)) :: st) M Q := w_iald mC_191 d191_53 (by decide) hk hj h1
theorem d191_54 : decode cX12_laysBack 54 = .ok (.iastore, 1) := by decide +kernel
theorem k191_54 {d : Nat} {l0 l1 l2 l3 l4 : Option PV} {st : List PV} {M : Mem} {Q : Option PV → Mem → Prop} {r : Nat} {j x : Int32} (hk : mK M r = 13) (hj : inb j (mN M r)) (h1 : r ≠ 1) : WP d 191 54 [l0, l1, l2, l3, l4] (vi x :: vi j :: vr r :: st) M Q = WP d 191 55 [l0, l1, l2, l3, l4] (st) (sI M r (ix j) x) Q := w_iast mC_191 d191_54 hk hj h1
theorem d191_55 : decode cX12_laysBack 55 = .ok (.aload_n 0, 1) := by decide +kernel
theorem k191_55 {d x : Nat} {l1 l2 l3 l4 : Option PV} {st : List PV} {M : Mem} {Q : Option PV → Mem → Prop} : WP d 191 55 [some (vr x), l1, l2, l3, l4] (st) M Q = WP d 191 56 [some (vr x), l1, l2, l3, l4] (vr x :: st) M Q := w1 mC_191 d191_55 rfl rfl
theorem d191_56 : decode cX12_laysBack 56 = .ok (.getfield 9, 3) := by decide +kernel
theorem k191_56 {d : Nat} {l0 l1 l2 l3 l4 : Option PV} {st : List PV} {M : Mem} {Q : Option PV → Mem → Prop} {r : Nat} (hk : mK M r = 12) : WP d 191 56 [l0, l1, l2, l3, l4] (vr r :: st) M Q = WP d 191 59 [l0, l1, l2, l3, l4] (vr (mR M r 2) :: st) M Q := w_getr mC_191 d191_56 fE_12_9 rfl (by rw [hk]; rfl)
theorem d191_59 : decode cX12_laysBack 59 = .ok (.bipush 32, 2) := by decide +kernel
theorem k191_59 {d : Nat} {l0 l1 l2 l3 l4 : Option PV} {st : List PV} {M : Mem} {Q : Option PV → Mem → Prop} : WP d 191 59 [l0, l1, l2, l3, l4] (st) M Q = WP d 191 61 [l0, l1, l2, l3, l4] (vi 32 :: st) M Q := w_bipush mC_191 d191_59 (by decide)
theorem d191_61 : decode cX12_laysBack 61 = .ok (.iload 4, 2) := by decide +kernel
theorem k191_61 {d : Nat} {x : Int32} {l0 l1 l2 l3 : Option PV} {st : List PV} {M : Mem} {Q : Option PV → Mem → Prop} : WP d 191 61 [l0, l1, l2, l3, some (vi x)] (st) M Q = WP d 191 63 [l0, l1, l2, l3, some (vi x)] (vi x :: st) M Q := w1 mC_191 d191_61 rfl rfl
theorem d191_63 : decode cX12_laysBack 63 = .ok (.iadd, 1) := by decide +kernel
theorem k191_63 {d : Nat} {l0 l1 l2 l3 l4 : Option PV} {st : List PV} {M : Mem} {Q : Option PV → Mem → Prop} {x y : Int32} : WP d 191 63 [l0, l1, l2, l3, l4] (vi y :: vi x :: st) M Q = WP d 191 64 [l0, l1, l2, l3, l4] (vi (x + y) :: st) M Q := w1 mC_191 d191_63 rfl rfl
theorem d191_64 : decode cX12_laysBack 64 = .ok (.aload_n 1, 1) := by decide +kernel
theorem k191_64 {d x : Nat} {l0 l2 l3 l4 : Option PV} {st : List PV} {M : Mem} {Q : Option PV → Mem → Prop} : WP d 191 64 [l0, some (vr x), l2, l3, l4] (st) M Q = WP d 191 65 [l0, some (vr x), l2, l3, l4] (vr x :: st) M Q := w1 mC_191 d191_64 rfl rfl
theorem d191_65 : decode cX12_laysBack 65 = .ok (.bipush 16, 2) := by decide +kernel
theorem k191_65 {d : Nat} {l0 l1 l2 l3 l4 : Option PV} {st : List PV} {M : Mem} {Q : Option PV → Mem → Prop} : WP d 191 65 [l0, l1, l2, l3, l4] (st) M Q = WP d 191 67 [l0, l1, l2, l3, l4] (vi 16 :: st) M Q := w_bipush mC_191 d191_65 (by decide)
theorem d191_67 : decode cX12_laysBack 67 = .ok (.iload 4, 2) := by decide +kernel
theorem k191_67 {d : Nat} {x : Int32} {l0 l1 l2 l3 : Option PV} {st : List PV} {M : Mem} {Q : Option PV → Mem → Prop} : WP d 191 67 [l0, l1, l2, l3, some (vi x)] (st) M Q = WP d 191 69 [l0, l1, l2, l3, some (vi x)] (vi x :: st) M Q := w1 mC_191 d191_67 rfl rfl
theorem d191_69 : decode cX12_laysBack 69 = .ok (.iadd, 1) := by decide +kernel
theorem k191_69 {d : Nat} {l0 l1 l2 l3 l4 : Option PV} {st : List PV} {M : Mem} {Q : Option PV → Mem → Prop} {x y : Int32} : WP d 191 69 [l0, l1, l2, l3, l4] (vi y :: vi x :: st) M Q = WP d 191 70 [l0, l1, l2, l3, l4] (vi (x + y) :: st) M Q := w1 mC_191 d191_69 rfl rfl
theorem d191_70 : decode cX12_laysBack 70 = .ok (.iaload, 1) := by decide +kernel
theorem k191_70 {d : Nat} {l0 l1 l2 l3 l4 : Option PV} {st : List PV} {M : Mem} {Q : Option PV → Mem → Prop} {r : Nat} {j : Int32} (hk : mK M r = 13) (hj : inb j (mN M r)) (h1 : r ≠ 1) : WP d 191 70 [l0, l1, l2, l3, l4] (vi j :: vr r :: st) M Q = WP d 191 71 [l0, l1, l2, l3, l4] (vi (mI M r (ix j)) :: st) M Q := w_iald mC_191 d191_70 (by decide) hk hj h1
theorem d191_71 : decode cX12_laysBack 71 = .ok (.iastore, 1) := by decide +kernel
theorem k191_71 {d : Nat} {l0 l1 l2 l3 l4 : Option PV} {st : List PV} {M : Mem} {Q : Option PV → Mem → Prop} {r : Nat} {j x : Int32} (hk : mK M r = 13) (hj : inb j (mN M r)) (h1 : r ≠ 1) : WP d 191 71 [l0, l1, l2, l3, l4] (vi x :: vi j :: vr r :: st) M Q = WP d 191 72 [l0, l1, l2, l3, l4] (st) (sI M r (ix j) x) Q := w_iast mC_191 d191_71 hk hj h1
theorem d191_72 : decode cX12_laysBack 72 = .ok (.aload_n 0, 1) := by decide +kernel
theorem k191_72 {d x : Nat} {l1 l2 l3 l4 : Option PV} {st : List PV} {M : Mem} {Q : Option PV → Mem → Prop} : WP d 191 72 [some (vr x), l1, l2, l3, l4] (st) M Q = WP d 191 73 [some (vr x), l1, l2, l3, l4] (vr x :: st) M Q := w1 mC_191 d191_72 rfl rfl
theorem d191_73 : decode cX12_laysBack 73 = .ok (.getfield 9, 3) := by decide +kernel
theorem k191_73 {d : Nat} {l0 l1 l2 l3 l4 : Option PV} {st : List PV} {M : Mem} {Q : Option PV → Mem → Prop} {r : Nat} (hk : mK M r = 12) : WP d 191 73 [l0, l1, l2, l3, l4] (vr r :: st) M Q = WP d 191 76 [l0, l1, l2, l3, l4] (vr (mR M r 2) :: st) M Q := w_getr mC_191 d191_73 fE_12_9 rfl (by rw [hk]; rfl)
theorem d191_76 : decode cX12_laysBack 76 = .ok (.bipush 40, 2) := by decide +kernel
theorem k191_76 {d : Nat} {l0 l1 l2 l3 l4 : Option PV} {st : List PV} {M : Mem} {Q : Option PV → Mem → Prop} : WP d 191 76 [l0, l1, l2, l3, l4] (st) M Q = WP d 191 78 [l0, l1, l2, l3, l4] (vi 40 :: st) M Q := w_bipush mC_191 d191_76 (by decide)
theorem d191_78 : decode cX12_laysBack 78 = .ok (.iload 4, 2) := by decide +kernel
theorem k191_78 {d : Nat} {x : Int32} {l0 l1 l2 l3 : Option PV} {st : List PV} {M : Mem} {Q : Option PV → Mem → Prop} : WP d 191 78 [l0, l1, l2, l3, some (vi x)] (st) M Q = WP d 191 80 [l0, l1, l2, l3, some (vi x)] (vi x :: st) M Q := w1 mC_191 d191_78 rfl rfl
theorem d191_80 : decode cX12_laysBack 80 = .ok (.iadd, 1) := by decide +kernel
theorem k191_80 {d : Nat} {l0 l1 l2 l3 l4 : Option PV} {st : List PV} {M : Mem} {Q : Option PV → Mem → Prop} {x y : Int32} : WP d 191 80 [l0, l1, l2, l3, l4] (vi y :: vi x :: st) M Q = WP d 191 81 [l0, l1, l2, l3, l4] (vi (x + y) :: st) M Q := w1 mC_191 d191_80 rfl rfl
theorem d191_81 : decode cX12_laysBack 81 = .ok (.aload_n 1, 1) := by decide +kernel
theorem k191_81 {d x : Nat} {l0 l2 l3 l4 : Option PV} {st : List PV} {M : Mem} {Q : Option PV → Mem → Prop} : WP d 191 81 [l0, some (vr x), l2, l3, l4] (st) M Q = WP d 191 82 [l0, some (vr x), l2, l3, l4] (vr x :: st) M Q := w1 mC_191 d191_81 rfl rfl
theorem d191_82 : decode cX12_laysBack 82 = .ok (.bipush 24, 2) := by decide +kernel
theorem k191_82 {d : Nat} {l0 l1 l2 l3 l4 : Option PV} {st : List PV} {M : Mem} {Q : Option PV → Mem → Prop} : WP d 191 82 [l0, l1, l2, l3, l4] (st) M Q = WP d 191 84 [l0, l1, l2, l3, l4] (vi 24 :: st) M Q := w_bipush mC_191 d191_82 (by decide)
theorem d191_84 : decode cX12_laysBack 84 = .ok (.iload 4, 2) := by decide +kernel
theorem k191_84 {d : Nat} {x : Int32} {l0 l1 l2 l3 : Option PV} {st : List PV} {M : Mem} {Q : Option PV → Mem → Prop} : WP d 191 84 [l0, l1, l2, l3, some (vi x)] (st) M Q = WP d 191 86 [l0, l1, l2, l3, some (vi x)] (vi x :: st) M Q := w1 mC_191 d191_84 rfl rfl
theorem d191_86 : decode cX12_laysBack 86 = .ok (.iadd, 1) := by decide +kernel
theorem k191_86 {d : Nat} {l0 l1 l2 l3 l4 : Option PV} {st : List PV} {M : Mem} {Q : Option PV → Mem → Prop} {x y : Int32} : WP d 191 86 [l0, l1, l2, l3, l4] (vi y :: vi x :: st) M Q = WP d 191 87 [l0, l1, l2, l3, l4] (vi (x + y) :: st) M Q := w1 mC_191 d191_86 rfl rfl
theorem d191_87 : decode cX12_laysBack 87 = .ok (.iaload, 1) := by decide +kernel
theorem k191_87 {d : Nat} {l0 l1 l2 l3 l4 : Option PV} {st : List PV} {M : Mem} {Q : Option PV → Mem → Prop} {r : Nat} {j : Int32} (hk : mK M r = 13) (hj : inb j (mN M r)) (h1 : r ≠ 1) : WP d 191 87 [l0, l1, l2, l3, l4] (vi j :: vr r :: st) M Q = WP d 191 88 [l0, l1, l2, l3, l4] (vi (mI M r (ix j)) :: st) M Q := w_iald mC_191 d191_87 (by decide) hk hj h1
theorem d191_88 : decode cX12_laysBack 88 = .ok (.iastore, 1) := by decide +kernel
theorem k191_88 {d : Nat} {l0 l1 l2 l3 l4 : Option PV} {st : List PV} {M : Mem} {Q : Option PV → Mem → Prop} {r : Nat} {j x : Int32} (hk : mK M r = 13) (hj : inb j (mN M r)) (h1 : r ≠ 1) : WP d 191 88 [l0, l1, l2, l3, l4] (vi x :: vi j :: vr r :: st) M Q = WP d 191 89 [l0, l1, l2, l3, l4] (st) (sI M r (ix j) x) Q := w_iast mC_191 d191_88 hk hj h1
theorem d191_89 : decode cX12_laysBack 89 = .ok (.iinc 4 1, 3) := by decide +kernel
theorem k191_89 {d : Nat} {x : Int32} {l0 l1 l2 l3 : Option PV} {st : List PV} {M : Mem} {Q : Option PV → Mem → Prop} : WP d 191 89 [l0, l1, l2, l3, some (vi x)] (st) M Q = WP d 191 92 [l0, l1, l2, l3, some (vi (x + 1))] (st) M Q := w_iinc mC_191 d191_89 rfl (by decide) rfl
theorem d191_92 : decode cX12_laysBack 92 = .ok (.goto (-60), 3) := by decide +kernel
theorem k191_92 {d : Nat} {l0 l1 l2 l3 l4 : Option PV} {st : List PV} {M : Mem} {Q : Option PV → Mem → Prop} : WP d 191 92 [l0, l1, l2, l3, l4] (st) M Q = WP d 191 32 [l0, l1, l2, l3, l4] (st) M Q := w_goto mC_191 d191_92 (by decide)
theorem d191_95 : decode cX12_laysBack 95 = .ok (.aload_n 0, 1) := by decide +kernel
theorem k191_95 {d x : Nat} {l1 l2 l3 l4 : Option PV} {st : List PV} {M : Mem} {Q : Option PV → Mem → Prop} : WP d 191 95 [some (vr x), l1, l2, l3, l4] (st) M Q = WP d 191 96 [some (vr x), l1, l2, l3, l4] (vr x :: st) M Q := w1 mC_191 d191_95 rfl rfl
theorem d191_96 : decode cX12_laysBack 96 = .ok (.getfield 15, 3) := by decide +kernel
theorem k191_96 {d : Nat} {l0 l1 l2 l3 l4 : Option PV} {st : List PV} {M : Mem} {Q : Option PV → Mem → Prop} {r : Nat} (hk : mK M r = 12) : WP d 191 96 [l0, l1, l2, l3, l4] (vr r :: st) M Q = WP d 191 99 [l0, l1, l2, l3, l4] (vr (mR M r 3) :: st) M Q := w_getr mC_191 d191_96 fE_12_15 rfl (by rw [hk]; rfl)
theorem d191_99 : decode cX12_laysBack 99 = .ok (.iconst 1, 1) := by decide +kernel
theorem k191_99 {d : Nat} {l0 l1 l2 l3 l4 : Option PV} {st : List PV} {M : Mem} {Q : Option PV → Mem → Prop} : WP d 191 99 [l0, l1, l2, l3, l4] (st) M Q = WP d 191 100 [l0, l1, l2, l3, l4] (vi 1 :: st) M Q := w_iconst mC_191 d191_99 (by decide)
theorem d191_100 : decode cX12_laysBack 100 = .ok (.aload_n 1, 1) := by decide +kernel
theorem k191_100 {d x : Nat} {l0 l2 l3 l4 : Option PV} {st : List PV} {M : Mem} {Q : Option PV → Mem → Prop} : WP d 191 100 [l0, some (vr x), l2, l3, l4] (st) M Q = WP d 191 101 [l0, some (vr x), l2, l3, l4] (vr x :: st) M Q := w1 mC_191 d191_100 rfl rfl
theorem d191_101 : decode cX12_laysBack 101 = .ok (.bipush 32, 2) := by decide +kernel
theorem k191_101 {d : Nat} {l0 l1 l2 l3 l4 : Option PV} {st : List PV} {M : Mem} {Q : Option PV → Mem → Prop} : WP d 191 101 [l0, l1, l2, l3, l4] (st) M Q = WP d 191 103 [l0, l1, l2, l3, l4] (vi 32 :: st) M Q := w_bipush mC_191 d191_101 (by decide)
theorem d191_103 : decode cX12_laysBack 103 = .ok (.iaload, 1) := by decide +kernel
theorem k191_103 {d : Nat} {l0 l1 l2 l3 l4 : Option PV} {st : List PV} {M : Mem} {Q : Option PV → Mem → Prop} {r : Nat} {j : Int32} (hk : mK M r = 13) (hj : inb j (mN M r)) (h1 : r ≠ 1) : WP d 191 103 [l0, l1, l2, l3, l4] (vi j :: vr r :: st) M Q = WP d 191 104 [l0, l1, l2, l3, l4] (vi (mI M r (ix j)) :: st) M Q := w_iald mC_191 d191_103 (by decide) hk hj h1
theorem d191_104 : decode cX12_laysBack 104 = .ok (.iastore, 1) := by decide +kernel
theorem k191_104 {d : Nat} {l0 l1 l2 l3 l4 : Option PV} {st : List PV} {M : Mem} {Q : Option PV → Mem → Prop} {r : Nat} {j x : Int32} (hk : mK M r = 13) (hj : inb j (mN M r)) (h1 : r ≠ 1) : WP d 191 104 [l0, l1, l2, l3, l4] (vi x :: vi j :: vr r :: st) M Q = WP d 191 105 [l0, l1, l2, l3, l4] (st) (sI M r (ix j) x) Q := w_iast mC_191 d191_104 hk hj h1
theorem d191_105 : decode cX12_laysBack 105 = .ok (.return_, 1) := by decide +kernel
theorem k191_105 {d : Nat} {l0 l1 l2 l3 l4 : Option PV} {M : Mem} {Q : Option PV → Mem → Prop} : WP d 191 105 [l0, l1, l2, l3, l4] ([]) M Q = Q none M := w_vret mC_191 d191_105 rfl
theorem d192_0 : decode cX12_laysBack_ 0 = .ok (.aload_n 0, 1) := by decide +kernel
theorem k192_0 {d x : Nat} {st : List PV} {M : Mem} {Q : Option PV → Mem → Prop} : WP d 192 0 [some (vr x)] (st) M Q = WP d 192 1 [some (vr x)] (vr x :: st) M Q := w1 mC_192 d192_0 rfl rfl
theorem d192_1 : decode cX12_laysBack_ 1 = .ok (.aload_n 0, 1) := by decide +kernel
theorem k192_1 {d x : Nat} {st : List PV} {M : Mem} {Q : Option PV → Mem → Prop} : WP d 192 1 [some (vr x)] (st) M Q = WP d 192 2 [some (vr x)] (vr x :: st) M Q := w1 mC_192 d192_1 rfl rfl
theorem d192_2 : decode cX12_laysBack_ 2 = .ok (.getfield 79, 3) := by decide +kernel
theorem k192_2 {d : Nat} {l0 : Option PV} {st : List PV} {M : Mem} {Q : Option PV → Mem → Prop} {r : Nat} (hk : mK M r = 12) : WP d 192 2 [l0] (vr r :: st) M Q = WP d 192 5 [l0] (vr (mR M r 40) :: st) M Q := w_getr mC_192 d192_2 fE_12_79 rfl (by rw [hk]; rfl)
theorem d192_5 : decode cX12_laysBack_ 5 = .ok (.bipush 8, 2) := by decide +kernel
theorem k192_5 {d : Nat} {l0 : Option PV} {st : List PV} {M : Mem} {Q : Option PV → Mem → Prop} : WP d 192 5 [l0] (st) M Q = WP d 192 7 [l0] (vi 8 :: st) M Q := w_bipush mC_192 d192_5 (by decide)
theorem d192_7 : decode cX12_laysBack_ 7 = .ok (.bipush 8, 2) := by decide +kernel
theorem k192_7 {d : Nat} {l0 : Option PV} {st : List PV} {M : Mem} {Q : Option PV → Mem → Prop} : WP d 192 7 [l0] (st) M Q = WP d 192 9 [l0] (vi 8 :: st) M Q := w_bipush mC_192 d192_7 (by decide)
theorem d192_9 : decode cX12_laysBack_ 9 = .ok (.invokevirtual 268, 3) := by decide +kernel
theorem k192_9 {d : Nat} {l0 : Option PV} {st : List PV} {M : Mem} {Q : Option PV → Mem → Prop} {a1 a2 : Int32} {a0 : Nat} {r : Nat} (hl : szL st ≤ 8) (hk : mK M r = 12) : WP (d + 1) 192 9 [l0] (vi a2 :: vi a1 :: vr a0 :: vr r :: st) M Q = WP d 191 0 [some (vr r), some (vr a0), some (vi a1), some (vi a2), none] [] M (fun v M' => WP (d + 1) 192 12 [l0] (psh v st) M' Q) := w_callV mC_192 d192_9 (ci := 12) rfl rfl rfl (Nat.le_of_ble_eq_true rfl) (by decide) rfl hl hk
theorem d192_12 : decode cX12_laysBack_ 12 = .ok (.return_, 1) := by decide +kernel
theorem k192_12 {d : Nat} {l0 : Option PV} {M : Mem} {Q : Option PV → Mem → Prop} : WP d 192 12 [l0] ([]) M Q = Q none M := w_vret mC_192 d192_12 rfl
theorem d193_0 : decode cX12_owing 0 = .ok (.iconst 0, 1) := by decide +kernel
theorem k193_0 {d : Nat} {l0 l1 l2 : Option PV} {st : List PV} {M : Mem} {Q : Option PV → Mem → Prop} : WP d 193 0 [l0, l1, l2] (st) M Q = WP d 193 1 [l0, l1, l2] (vi 0 :: st) M Q := w_iconst mC_193 d193_0 (by decide)
theorem d193_1 : decode cX12_owing 1 = .ok (.istore_n 1, 1) := by decide +kernel
theorem k193_1 {d : Nat} {l0 l1 l2 : Option PV} {st : List PV} {M : Mem} {Q : Option PV → Mem → Prop} {x : Int32} : WP d 193 1 [l0, l1, l2] (vi x :: st) M Q = WP d 193 2 [l0, some (vi x), l2] (st) M Q := w1 mC_193 d193_1 rfl rfl
theorem d193_2 : decode cX12_owing 2 = .ok (.iconst 0, 1) := by decide +kernel
theorem k193_2 {d : Nat} {l0 l1 l2 : Option PV} {st : List PV} {M : Mem} {Q : Option PV → Mem → Prop} : WP d 193 2 [l0, l1, l2] (st) M Q = WP d 193 3 [l0, l1, l2] (vi 0 :: st) M Q := w_iconst mC_193 d193_2 (by decide)
theorem d193_3 : decode cX12_owing 3 = .ok (.istore_n 2, 1) := by decide +kernel
theorem k193_3 {d : Nat} {l0 l1 l2 : Option PV} {st : List PV} {M : Mem} {Q : Option PV → Mem → Prop} {x : Int32} : WP d 193 3 [l0, l1, l2] (vi x :: st) M Q = WP d 193 4 [l0, l1, some (vi x)] (st) M Q := w1 mC_193 d193_3 rfl rfl
theorem d193_4 : decode cX12_owing 4 = .ok (.iload_n 2, 1) := by decide +kernel
theorem k193_4 {d : Nat} {x : Int32} {l0 l1 : Option PV} {st : List PV} {M : Mem} {Q : Option PV → Mem → Prop} : WP d 193 4 [l0, l1, some (vi x)] (st) M Q = WP d 193 5 [l0, l1, some (vi x)] (vi x :: st) M Q := w1 mC_193 d193_4 rfl rfl
theorem d193_5 : decode cX12_owing 5 = .ok (.aload_n 0, 1) := by decide +kernel
theorem k193_5 {d x : Nat} {l1 l2 : Option PV} {st : List PV} {M : Mem} {Q : Option PV → Mem → Prop} : WP d 193 5 [some (vr x), l1, l2] (st) M Q = WP d 193 6 [some (vr x), l1, l2] (vr x :: st) M Q := w1 mC_193 d193_5 rfl rfl
theorem d193_6 : decode cX12_owing 6 = .ok (.getfield 108, 3) := by decide +kernel
theorem k193_6 {d : Nat} {l0 l1 l2 : Option PV} {st : List PV} {M : Mem} {Q : Option PV → Mem → Prop} {r : Nat} (hk : mK M r = 12) : WP d 193 6 [l0, l1, l2] (vr r :: st) M Q = WP d 193 9 [l0, l1, l2] (vi (mI M r 1) :: st) M Q := w_get mC_193 d193_6 fE_12_108 rfl (by rw [hk]; rfl)
theorem d193_9 : decode cX12_owing 9 = .ok (.if_icmp .ge 24, 3) := by decide +kernel
theorem k193_9 {d : Nat} {l0 l1 l2 : Option PV} {st : List PV} {M : Mem} {Q : Option PV → Mem → Prop} {x y : Int32} : WP d 193 9 [l0, l1, l2] (vi y :: vi x :: st) M Q = (if y ≤ x then WP d 193 33 [l0, l1, l2] (st) M Q else WP d 193 12 [l0, l1, l2] (st) M Q) := w_ic_ge mC_193 d193_9 (by decide)
theorem d193_12 : decode cX12_owing 12 = .ok (.aload_n 0, 1) := by decide +kernel
theorem k193_12 {d x : Nat} {l1 l2 : Option PV} {st : List PV} {M : Mem} {Q : Option PV → Mem → Prop} : WP d 193 12 [some (vr x), l1, l2] (st) M Q = WP d 193 13 [some (vr x), l1, l2] (vr x :: st) M Q := w1 mC_193 d193_12 rfl rfl
theorem d193_13 : decode cX12_owing 13 = .ok (.iload_n 2, 1) := by decide +kernel
theorem k193_13 {d : Nat} {x : Int32} {l0 l1 : Option PV} {st : List PV} {M : Mem} {Q : Option PV → Mem → Prop} : WP d 193 13 [l0, l1, some (vi x)] (st) M Q = WP d 193 14 [l0, l1, some (vi x)] (vi x :: st) M Q := w1 mC_193 d193_13 rfl rfl
theorem d193_14 : decode cX12_owing 14 = .ok (.invokevirtual 231, 3) := by decide +kernel
theorem k193_14 {d : Nat} {l0 l1 l2 : Option PV} {st : List PV} {M : Mem} {Q : Option PV → Mem → Prop} {a0 : Int32} {r : Nat} (hl : szL st ≤ 8) (hk : mK M r = 12) : WP (d + 1) 193 14 [l0, l1, l2] (vi a0 :: vr r :: st) M Q = WP d 181 0 [some (vr r), some (vi a0)] [] M (fun v M' => WP (d + 1) 193 17 [l0, l1, l2] (psh v st) M' Q) := w_callV mC_193 d193_14 (ci := 12) rfl rfl rfl (Nat.le_of_ble_eq_true rfl) (by decide) rfl hl hk
theorem d193_17 : decode cX12_owing 17 = .ok (.iconst (-1), 1) := by decide +kernel
theorem k193_17 {d : Nat} {l0 l1 l2 : Option PV} {st : List PV} {M : Mem} {Q : Option PV → Mem → Prop} : WP d 193 17 [l0, l1, l2] (st) M Q = WP d 193 18 [l0, l1, l2] (vi (-1) :: st) M Q := w_iconst mC_193 d193_17 (by decide)
theorem d193_18 : decode cX12_owing 18 = .ok (.if_icmp .eq 9, 3) := by decide +kernel
theorem k193_18 {d : Nat} {l0 l1 l2 : Option PV} {st : List PV} {M : Mem} {Q : Option PV → Mem → Prop} {x y : Int32} : WP d 193 18 [l0, l1, l2] (vi y :: vi x :: st) M Q = (if x = y then WP d 193 27 [l0, l1, l2] (st) M Q else WP d 193 21 [l0, l1, l2] (st) M Q) := w_ic_eq mC_193 d193_18 (by decide)
theorem d193_21 : decode cX12_owing 21 = .ok (.iload_n 1, 1) := by decide +kernel
theorem k193_21 {d : Nat} {x : Int32} {l0 l2 : Option PV} {st : List PV} {M : Mem} {Q : Option PV → Mem → Prop} : WP d 193 21 [l0, some (vi x), l2] (st) M Q = WP d 193 22 [l0, some (vi x), l2] (vi x :: st) M Q := w1 mC_193 d193_21 rfl rfl
theorem d193_22 : decode cX12_owing 22 = .ok (.iconst 1, 1) := by decide +kernel
theorem k193_22 {d : Nat} {l0 l1 l2 : Option PV} {st : List PV} {M : Mem} {Q : Option PV → Mem → Prop} : WP d 193 22 [l0, l1, l2] (st) M Q = WP d 193 23 [l0, l1, l2] (vi 1 :: st) M Q := w_iconst mC_193 d193_22 (by decide)
theorem d193_23 : decode cX12_owing 23 = .ok (.iload_n 2, 1) := by decide +kernel
theorem k193_23 {d : Nat} {x : Int32} {l0 l1 : Option PV} {st : List PV} {M : Mem} {Q : Option PV → Mem → Prop} : WP d 193 23 [l0, l1, some (vi x)] (st) M Q = WP d 193 24 [l0, l1, some (vi x)] (vi x :: st) M Q := w1 mC_193 d193_23 rfl rfl
theorem d193_24 : decode cX12_owing 24 = .ok (.ishl, 1) := by decide +kernel
theorem k193_24 {d : Nat} {l0 l1 l2 : Option PV} {st : List PV} {M : Mem} {Q : Option PV → Mem → Prop} {x y : Int32} : WP d 193 24 [l0, l1, l2] (vi y :: vi x :: st) M Q = WP d 193 25 [l0, l1, l2] (vi (x <<< (y &&& 31)) :: st) M Q := w1 mC_193 d193_24 rfl rfl
theorem d193_25 : decode cX12_owing 25 = .ok (.ior, 1) := by decide +kernel
theorem k193_25 {d : Nat} {l0 l1 l2 : Option PV} {st : List PV} {M : Mem} {Q : Option PV → Mem → Prop} {x y : Int32} : WP d 193 25 [l0, l1, l2] (vi y :: vi x :: st) M Q = WP d 193 26 [l0, l1, l2] (vi (x ||| y) :: st) M Q := w1 mC_193 d193_25 rfl rfl
theorem d193_26 : decode cX12_owing 26 = .ok (.istore_n 1, 1) := by decide +kernel
theorem k193_26 {d : Nat} {l0 l1 l2 : Option PV} {st : List PV} {M : Mem} {Q : Option PV → Mem → Prop} {x : Int32} : WP d 193 26 [l0, l1, l2] (vi x :: st) M Q = WP d 193 27 [l0, some (vi x), l2] (st) M Q := w1 mC_193 d193_26 rfl rfl
theorem d193_27 : decode cX12_owing 27 = .ok (.iinc 2 1, 3) := by decide +kernel
theorem k193_27 {d : Nat} {x : Int32} {l0 l1 : Option PV} {st : List PV} {M : Mem} {Q : Option PV → Mem → Prop} : WP d 193 27 [l0, l1, some (vi x)] (st) M Q = WP d 193 30 [l0, l1, some (vi (x + 1))] (st) M Q := w_iinc mC_193 d193_27 rfl (by decide) rfl
theorem d193_30 : decode cX12_owing 30 = .ok (.goto (-26), 3) := by decide +kernel
theorem k193_30 {d : Nat} {l0 l1 l2 : Option PV} {st : List PV} {M : Mem} {Q : Option PV → Mem → Prop} : WP d 193 30 [l0, l1, l2] (st) M Q = WP d 193 4 [l0, l1, l2] (st) M Q := w_goto mC_193 d193_30 (by decide)
theorem d193_33 : decode cX12_owing 33 = .ok (.iload_n 1, 1) := by decide +kernel
theorem k193_33 {d : Nat} {x : Int32} {l0 l2 : Option PV} {st : List PV} {M : Mem} {Q : Option PV → Mem → Prop} : WP d 193 33 [l0, some (vi x), l2] (st) M Q = WP d 193 34 [l0, some (vi x), l2] (vi x :: st) M Q := w1 mC_193 d193_33 rfl rfl
theorem d193_34 : decode cX12_owing 34 = .ok (.ireturn, 1) := by decide +kernel
theorem k193_34 {d : Nat} {l0 l1 l2 : Option PV} {M : Mem} {Q : Option PV → Mem → Prop} {x : Int32} : WP d 193 34 [l0, l1, l2] ([vi x]) M Q = Q (some (vi x)) M := w_iret mC_193 d193_34 rfl
theorem d194_0 : decode cX12_allHeld 0 = .ok (.iconst 0, 1) := by decide +kernel
theorem k194_0 {d : Nat} {l0 l1 l2 : Option PV} {st : List PV} {M : Mem} {Q : Option PV → Mem → Prop} : WP d 194 0 [l0, l1, l2] (st) M Q = WP d 194 1 [l0, l1, l2] (vi 0 :: st) M Q := w_iconst mC_194 d194_0 (by decide)
theorem d194_1 : decode cX12_allHeld 1 = .ok (.istore_n 1, 1) := by decide +kernel
theorem k194_1 {d : Nat} {l0 l1 l2 : Option PV} {st : List PV} {M : Mem} {Q : Option PV → Mem → Prop} {x : Int32} : WP d 194 1 [l0, l1, l2] (vi x :: st) M Q = WP d 194 2 [l0, some (vi x), l2] (st) M Q := w1 mC_194 d194_1 rfl rfl
theorem d194_2 : decode cX12_allHeld 2 = .ok (.iconst 0, 1) := by decide +kernel
theorem k194_2 {d : Nat} {l0 l1 l2 : Option PV} {st : List PV} {M : Mem} {Q : Option PV → Mem → Prop} : WP d 194 2 [l0, l1, l2] (st) M Q = WP d 194 3 [l0, l1, l2] (vi 0 :: st) M Q := w_iconst mC_194 d194_2 (by decide)
theorem d194_3 : decode cX12_allHeld 3 = .ok (.istore_n 2, 1) := by decide +kernel
theorem k194_3 {d : Nat} {l0 l1 l2 : Option PV} {st : List PV} {M : Mem} {Q : Option PV → Mem → Prop} {x : Int32} : WP d 194 3 [l0, l1, l2] (vi x :: st) M Q = WP d 194 4 [l0, l1, some (vi x)] (st) M Q := w1 mC_194 d194_3 rfl rfl
theorem d194_4 : decode cX12_allHeld 4 = .ok (.iload_n 2, 1) := by decide +kernel
theorem k194_4 {d : Nat} {x : Int32} {l0 l1 : Option PV} {st : List PV} {M : Mem} {Q : Option PV → Mem → Prop} : WP d 194 4 [l0, l1, some (vi x)] (st) M Q = WP d 194 5 [l0, l1, some (vi x)] (vi x :: st) M Q := w1 mC_194 d194_4 rfl rfl
theorem d194_5 : decode cX12_allHeld 5 = .ok (.aload_n 0, 1) := by decide +kernel
theorem k194_5 {d x : Nat} {l1 l2 : Option PV} {st : List PV} {M : Mem} {Q : Option PV → Mem → Prop} : WP d 194 5 [some (vr x), l1, l2] (st) M Q = WP d 194 6 [some (vr x), l1, l2] (vr x :: st) M Q := w1 mC_194 d194_5 rfl rfl
theorem d194_6 : decode cX12_allHeld 6 = .ok (.getfield 108, 3) := by decide +kernel
theorem k194_6 {d : Nat} {l0 l1 l2 : Option PV} {st : List PV} {M : Mem} {Q : Option PV → Mem → Prop} {r : Nat} (hk : mK M r = 12) : WP d 194 6 [l0, l1, l2] (vr r :: st) M Q = WP d 194 9 [l0, l1, l2] (vi (mI M r 1) :: st) M Q := w_get mC_194 d194_6 fE_12_108 rfl (by rw [hk]; rfl)
theorem d194_9 : decode cX12_allHeld 9 = .ok (.if_icmp .ge 17, 3) := by decide +kernel
theorem k194_9 {d : Nat} {l0 l1 l2 : Option PV} {st : List PV} {M : Mem} {Q : Option PV → Mem → Prop} {x y : Int32} : WP d 194 9 [l0, l1, l2] (vi y :: vi x :: st) M Q = (if y ≤ x then WP d 194 26 [l0, l1, l2] (st) M Q else WP d 194 12 [l0, l1, l2] (st) M Q) := w_ic_ge mC_194 d194_9 (by decide)
theorem d194_12 : decode cX12_allHeld 12 = .ok (.iload_n 1, 1) := by decide +kernel
theorem k194_12 {d : Nat} {x : Int32} {l0 l2 : Option PV} {st : List PV} {M : Mem} {Q : Option PV → Mem → Prop} : WP d 194 12 [l0, some (vi x), l2] (st) M Q = WP d 194 13 [l0, some (vi x), l2] (vi x :: st) M Q := w1 mC_194 d194_12 rfl rfl
theorem d194_13 : decode cX12_allHeld 13 = .ok (.aload_n 0, 1) := by decide +kernel
theorem k194_13 {d x : Nat} {l1 l2 : Option PV} {st : List PV} {M : Mem} {Q : Option PV → Mem → Prop} : WP d 194 13 [some (vr x), l1, l2] (st) M Q = WP d 194 14 [some (vr x), l1, l2] (vr x :: st) M Q := w1 mC_194 d194_13 rfl rfl
theorem d194_14 : decode cX12_allHeld 14 = .ok (.iload_n 2, 1) := by decide +kernel
theorem k194_14 {d : Nat} {x : Int32} {l0 l1 : Option PV} {st : List PV} {M : Mem} {Q : Option PV → Mem → Prop} : WP d 194 14 [l0, l1, some (vi x)] (st) M Q = WP d 194 15 [l0, l1, some (vi x)] (vi x :: st) M Q := w1 mC_194 d194_14 rfl rfl
theorem d194_15 : decode cX12_allHeld 15 = .ok (.invokevirtual 228, 3) := by decide +kernel
theorem k194_15 {d : Nat} {l0 l1 l2 : Option PV} {st : List PV} {M : Mem} {Q : Option PV → Mem → Prop} {a0 : Int32} {r : Nat} (hl : szL st ≤ 8) (hk : mK M r = 12) : WP (d + 1) 194 15 [l0, l1, l2] (vi a0 :: vr r :: st) M Q = WP d 182 0 [some (vr r), some (vi a0)] [] M (fun v M' => WP (d + 1) 194 18 [l0, l1, l2] (psh v st) M' Q) := w_callV mC_194 d194_15 (ci := 12) rfl rfl rfl (Nat.le_of_ble_eq_true rfl) (by decide) rfl hl hk
theorem d194_18 : decode cX12_allHeld 18 = .ok (.iadd, 1) := by decide +kernel
theorem k194_18 {d : Nat} {l0 l1 l2 : Option PV} {st : List PV} {M : Mem} {Q : Option PV → Mem → Prop} {x y : Int32} : WP d 194 18 [l0, l1, l2] (vi y :: vi x :: st) M Q = WP d 194 19 [l0, l1, l2] (vi (x + y) :: st) M Q := w1 mC_194 d194_18 rfl rfl
theorem d194_19 : decode cX12_allHeld 19 = .ok (.istore_n 1, 1) := by decide +kernel
theorem k194_19 {d : Nat} {l0 l1 l2 : Option PV} {st : List PV} {M : Mem} {Q : Option PV → Mem → Prop} {x : Int32} : WP d 194 19 [l0, l1, l2] (vi x :: st) M Q = WP d 194 20 [l0, some (vi x), l2] (st) M Q := w1 mC_194 d194_19 rfl rfl
theorem d194_20 : decode cX12_allHeld 20 = .ok (.iinc 2 1, 3) := by decide +kernel
theorem k194_20 {d : Nat} {x : Int32} {l0 l1 : Option PV} {st : List PV} {M : Mem} {Q : Option PV → Mem → Prop} : WP d 194 20 [l0, l1, some (vi x)] (st) M Q = WP d 194 23 [l0, l1, some (vi (x + 1))] (st) M Q := w_iinc mC_194 d194_20 rfl (by decide) rfl
theorem d194_23 : decode cX12_allHeld 23 = .ok (.goto (-19), 3) := by decide +kernel
theorem k194_23 {d : Nat} {l0 l1 l2 : Option PV} {st : List PV} {M : Mem} {Q : Option PV → Mem → Prop} : WP d 194 23 [l0, l1, l2] (st) M Q = WP d 194 4 [l0, l1, l2] (st) M Q := w_goto mC_194 d194_23 (by decide)
theorem d194_26 : decode cX12_allHeld 26 = .ok (.iload_n 1, 1) := by decide +kernel
theorem k194_26 {d : Nat} {x : Int32} {l0 l2 : Option PV} {st : List PV} {M : Mem} {Q : Option PV → Mem → Prop} : WP d 194 26 [l0, some (vi x), l2] (st) M Q = WP d 194 27 [l0, some (vi x), l2] (vi x :: st) M Q := w1 mC_194 d194_26 rfl rfl
theorem d194_27 : decode cX12_allHeld 27 = .ok (.ireturn, 1) := by decide +kernel
theorem k194_27 {d : Nat} {l0 l1 l2 : Option PV} {M : Mem} {Q : Option PV → Mem → Prop} {x : Int32} : WP d 194 27 [l0, l1, l2] ([vi x]) M Q = Q (some (vi x)) M := w_iret mC_194 d194_27 rfl
theorem d195_0 : decode cX12_later 0 = .ok (.iload_n 1, 1) := by decide +kernel
theorem k195_0 {d : Nat} {x : Int32} {l0 l2 l3 l4 : Option PV} {st : List PV} {M : Mem} {Q : Option PV → Mem → Prop} : WP d 195 0 [l0, some (vi x), l2, l3, l4] (st) M Q = WP d 195 1 [l0, some (vi x), l2, l3, l4] (vi x :: st) M Q := w1 mC_195 d195_0 rfl rfl
theorem d195_1 : decode cX12_later 1 = .ok (.iconst 0, 1) := by decide +kernel
theorem k195_1 {d : Nat} {l0 l1 l2 l3 l4 : Option PV} {st : List PV} {M : Mem} {Q : Option PV → Mem → Prop} : WP d 195 1 [l0, l1, l2, l3, l4] (st) M Q = WP d 195 2 [l0, l1, l2, l3, l4] (vi 0 :: st) M Q := w_iconst mC_195 d195_1 (by decide)
theorem d195_2 : decode cX12_later 2 = .ok (.bipush 40, 2) := by decide +kernel
theorem k195_2 {d : Nat} {l0 l1 l2 l3 l4 : Option PV} {st : List PV} {M : Mem} {Q : Option PV → Mem → Prop} : WP d 195 2 [l0, l1, l2, l3, l4] (st) M Q = WP d 195 4 [l0, l1, l2, l3, l4] (vi 40 :: st) M Q := w_bipush mC_195 d195_2 (by decide)
theorem d195_4 : decode cX12_later 4 = .ok (.invokestatic 104, 3) := by decide +kernel
theorem k195_4 {d : Nat} {l0 l1 l2 l3 l4 : Option PV} {st : List PV} {M : Mem} {Q : Option PV → Mem → Prop} {a0 a1 a2 : Int32} (hl : szL st ≤ 8) : WP (d + 1) 195 4 [l0, l1, l2, l3, l4] (vi a2 :: vi a1 :: vi a0 :: st) M Q = WP d 145 0 [some (vi a0), some (vi a1), some (vi a2)] [] M (fun v M' => WP (d + 1) 195 7 [l0, l1, l2, l3, l4] (psh v st) M' Q) := w_callS mC_195 d195_4 rfl rfl (Nat.le_of_ble_eq_true rfl) (by decide) rfl hl
theorem d195_7 : decode cX12_later 7 = .ok (.ifCond .eq 36, 3) := by decide +kernel
theorem k195_7 {d : Nat} {l0 l1 l2 l3 l4 : Option PV} {st : List PV} {M : Mem} {Q : Option PV → Mem → Prop} {x : Int32} : WP d 195 7 [l0, l1, l2, l3, l4] (vi x :: st) M Q = (if x = 0 then WP d 195 43 [l0, l1, l2, l3, l4] (st) M Q else WP d 195 10 [l0, l1, l2, l3, l4] (st) M Q) := w_if_eq mC_195 d195_7 (by decide)
theorem d195_10 : decode cX12_later 10 = .ok (.iload_n 3, 1) := by decide +kernel
theorem k195_10 {d : Nat} {x : Int32} {l0 l1 l2 l4 : Option PV} {st : List PV} {M : Mem} {Q : Option PV → Mem → Prop} : WP d 195 10 [l0, l1, l2, some (vi x), l4] (st) M Q = WP d 195 11 [l0, l1, l2, some (vi x), l4] (vi x :: st) M Q := w1 mC_195 d195_10 rfl rfl
theorem d195_11 : decode cX12_later 11 = .ok (.iconst 0, 1) := by decide +kernel
theorem k195_11 {d : Nat} {l0 l1 l2 l3 l4 : Option PV} {st : List PV} {M : Mem} {Q : Option PV → Mem → Prop} : WP d 195 11 [l0, l1, l2, l3, l4] (st) M Q = WP d 195 12 [l0, l1, l2, l3, l4] (vi 0 :: st) M Q := w_iconst mC_195 d195_11 (by decide)
theorem d195_12 : decode cX12_later 12 = .ok (.iconst 3, 1) := by decide +kernel
theorem k195_12 {d : Nat} {l0 l1 l2 l3 l4 : Option PV} {st : List PV} {M : Mem} {Q : Option PV → Mem → Prop} : WP d 195 12 [l0, l1, l2, l3, l4] (st) M Q = WP d 195 13 [l0, l1, l2, l3, l4] (vi 3 :: st) M Q := w_iconst mC_195 d195_12 (by decide)
theorem d195_13 : decode cX12_later 13 = .ok (.invokestatic 104, 3) := by decide +kernel
theorem k195_13 {d : Nat} {l0 l1 l2 l3 l4 : Option PV} {st : List PV} {M : Mem} {Q : Option PV → Mem → Prop} {a0 a1 a2 : Int32} (hl : szL st ≤ 8) : WP (d + 1) 195 13 [l0, l1, l2, l3, l4] (vi a2 :: vi a1 :: vi a0 :: st) M Q = WP d 145 0 [some (vi a0), some (vi a1), some (vi a2)] [] M (fun v M' => WP (d + 1) 195 16 [l0, l1, l2, l3, l4] (psh v st) M' Q) := w_callS mC_195 d195_13 rfl rfl (Nat.le_of_ble_eq_true rfl) (by decide) rfl hl
theorem d195_16 : decode cX12_later 16 = .ok (.ifCond .eq 27, 3) := by decide +kernel
theorem k195_16 {d : Nat} {l0 l1 l2 l3 l4 : Option PV} {st : List PV} {M : Mem} {Q : Option PV → Mem → Prop} {x : Int32} : WP d 195 16 [l0, l1, l2, l3, l4] (vi x :: st) M Q = (if x = 0 then WP d 195 43 [l0, l1, l2, l3, l4] (st) M Q else WP d 195 19 [l0, l1, l2, l3, l4] (st) M Q) := w_if_eq mC_195 d195_16 (by decide)
theorem d195_19 : decode cX12_later 19 = .ok (.iload_n 3, 1) := by decide +kernel
theorem k195_19 {d : Nat} {x : Int32} {l0 l1 l2 l4 : Option PV} {st : List PV} {M : Mem} {Q : Option PV → Mem → Prop} : WP d 195 19 [l0, l1, l2, some (vi x), l4] (st) M Q = WP d 195 20 [l0, l1, l2, some (vi x), l4] (vi x :: st) M Q := w1 mC_195 d195_19 rfl rfl
theorem d195_20 : decode cX12_later 20 = .ok (.iconst 3, 1) := by decide +kernel
theorem k195_20 {d : Nat} {l0 l1 l2 l3 l4 : Option PV} {st : List PV} {M : Mem} {Q : Option PV → Mem → Prop} : WP d 195 20 [l0, l1, l2, l3, l4] (st) M Q = WP d 195 21 [l0, l1, l2, l3, l4] (vi 3 :: st) M Q := w_iconst mC_195 d195_20 (by decide)
theorem d195_21 : decode cX12_later 21 = .ok (.if_icmp .ne 14, 3) := by decide +kernel
theorem k195_21 {d : Nat} {l0 l1 l2 l3 l4 : Option PV} {st : List PV} {M : Mem} {Q : Option PV → Mem → Prop} {x y : Int32} : WP d 195 21 [l0, l1, l2, l3, l4] (vi y :: vi x :: st) M Q = (if x = y then WP d 195 24 [l0, l1, l2, l3, l4] (st) M Q else WP d 195 35 [l0, l1, l2, l3, l4] (st) M Q) := w_ic_ne mC_195 d195_21 (by decide)
theorem d195_24 : decode cX12_later 24 = .ok (.aload_n 0, 1) := by decide +kernel
theorem k195_24 {d x : Nat} {l1 l2 l3 l4 : Option PV} {st : List PV} {M : Mem} {Q : Option PV → Mem → Prop} : WP d 195 24 [some (vr x), l1, l2, l3, l4] (st) M Q = WP d 195 25 [some (vr x), l1, l2, l3, l4] (vr x :: st) M Q := w1 mC_195 d195_24 rfl rfl
theorem d195_25 : decode cX12_later 25 = .ok (.iload_n 2, 1) := by decide +kernel
theorem k195_25 {d : Nat} {x : Int32} {l0 l1 l3 l4 : Option PV} {st : List PV} {M : Mem} {Q : Option PV → Mem → Prop} : WP d 195 25 [l0, l1, some (vi x), l3, l4] (st) M Q = WP d 195 26 [l0, l1, some (vi x), l3, l4] (vi x :: st) M Q := w1 mC_195 d195_25 rfl rfl
theorem d195_26 : decode cX12_later 26 = .ok (.invokevirtual 119, 3) := by decide +kernel
theorem k195_26 {d : Nat} {l0 l1 l2 l3 l4 : Option PV} {st : List PV} {M : Mem} {Q : Option PV → Mem → Prop} {a0 : Int32} {r : Nat} (hl : szL st ≤ 8) (hk : mK M r = 12) : WP (d + 1) 195 26 [l0, l1, l2, l3, l4] (vi a0 :: vr r :: st) M Q = WP d 146 0 [some (vr r), some (vi a0)] [] M (fun v M' => WP (d + 1) 195 29 [l0, l1, l2, l3, l4] (psh v st) M' Q) := w_callV mC_195 d195_26 (ci := 12) rfl rfl rfl (Nat.le_of_ble_eq_true rfl) (by decide) rfl hl hk
theorem d195_29 : decode cX12_later 29 = .ok (.ifCond .eq 14, 3) := by decide +kernel
theorem k195_29 {d : Nat} {l0 l1 l2 l3 l4 : Option PV} {st : List PV} {M : Mem} {Q : Option PV → Mem → Prop} {x : Int32} : WP d 195 29 [l0, l1, l2, l3, l4] (vi x :: st) M Q = (if x = 0 then WP d 195 43 [l0, l1, l2, l3, l4] (st) M Q else WP d 195 32 [l0, l1, l2, l3, l4] (st) M Q) := w_if_eq mC_195 d195_29 (by decide)
theorem d195_32 : decode cX12_later 32 = .ok (.goto 14, 3) := by decide +kernel
theorem k195_32 {d : Nat} {l0 l1 l2 l3 l4 : Option PV} {st : List PV} {M : Mem} {Q : Option PV → Mem → Prop} : WP d 195 32 [l0, l1, l2, l3, l4] (st) M Q = WP d 195 46 [l0, l1, l2, l3, l4] (st) M Q := w_goto mC_195 d195_32 (by decide)
theorem d195_35 : decode cX12_later 35 = .ok (.aload_n 0, 1) := by decide +kernel
theorem k195_35 {d x : Nat} {l1 l2 l3 l4 : Option PV} {st : List PV} {M : Mem} {Q : Option PV → Mem → Prop} : WP d 195 35 [some (vr x), l1, l2, l3, l4] (st) M Q = WP d 195 36 [some (vr x), l1, l2, l3, l4] (vr x :: st) M Q := w1 mC_195 d195_35 rfl rfl
theorem d195_36 : decode cX12_later 36 = .ok (.iload_n 2, 1) := by decide +kernel
theorem k195_36 {d : Nat} {x : Int32} {l0 l1 l3 l4 : Option PV} {st : List PV} {M : Mem} {Q : Option PV → Mem → Prop} : WP d 195 36 [l0, l1, some (vi x), l3, l4] (st) M Q = WP d 195 37 [l0, l1, some (vi x), l3, l4] (vi x :: st) M Q := w1 mC_195 d195_36 rfl rfl
theorem d195_37 : decode cX12_later 37 = .ok (.invokevirtual 134, 3) := by decide +kernel
theorem k195_37 {d : Nat} {l0 l1 l2 l3 l4 : Option PV} {st : List PV} {M : Mem} {Q : Option PV → Mem → Prop} {a0 : Int32} {r : Nat} (hl : szL st ≤ 8) (hk : mK M r = 12) : WP (d + 1) 195 37 [l0, l1, l2, l3, l4] (vi a0 :: vr r :: st) M Q = WP d 147 0 [some (vr r), some (vi a0)] [] M (fun v M' => WP (d + 1) 195 40 [l0, l1, l2, l3, l4] (psh v st) M' Q) := w_callV mC_195 d195_37 (ci := 12) rfl rfl rfl (Nat.le_of_ble_eq_true rfl) (by decide) rfl hl hk
theorem d195_40 : decode cX12_later 40 = .ok (.ifCond .ne 6, 3) := by decide +kernel
theorem k195_40 {d : Nat} {l0 l1 l2 l3 l4 : Option PV} {st : List PV} {M : Mem} {Q : Option PV → Mem → Prop} {x : Int32} : WP d 195 40 [l0, l1, l2, l3, l4] (vi x :: st) M Q = (if x = 0 then WP d 195 43 [l0, l1, l2, l3, l4] (st) M Q else WP d 195 46 [l0, l1, l2, l3, l4] (st) M Q) := w_if_ne mC_195 d195_40 (by decide)
theorem d195_43 : decode cX12_later 43 = .ok (.ldc 144, 2) := by decide +kernel
theorem k195_43 {d : Nat} {l0 l1 l2 l3 l4 : Option PV} {st : List PV} {M : Mem} {Q : Option PV → Mem → Prop} : WP d 195 43 [l0, l1, l2, l3, l4] (st) M Q = WP d 195 45 [l0, l1, l2, l3, l4] (vi (-2000000000) :: st) M Q := w_ldc mC_195 d195_43 rfl
theorem d195_45 : decode cX12_later 45 = .ok (.ireturn, 1) := by decide +kernel
theorem k195_45 {d : Nat} {l0 l1 l2 l3 l4 : Option PV} {M : Mem} {Q : Option PV → Mem → Prop} {x : Int32} : WP d 195 45 [l0, l1, l2, l3, l4] ([vi x]) M Q = Q (some (vi x)) M := w_iret mC_195 d195_45 rfl
theorem d195_46 : decode cX12_later 46 = .ok (.aload_n 0, 1) := by decide +kernel
theorem k195_46 {d x : Nat} {l1 l2 l3 l4 : Option PV} {st : List PV} {M : Mem} {Q : Option PV → Mem → Prop} : WP d 195 46 [some (vr x), l1, l2, l3, l4] (st) M Q = WP d 195 47 [some (vr x), l1, l2, l3, l4] (vr x :: st) M Q := w1 mC_195 d195_46 rfl rfl
theorem d195_47 : decode cX12_later 47 = .ok (.aload_n 0, 1) := by decide +kernel
theorem k195_47 {d x : Nat} {l1 l2 l3 l4 : Option PV} {st : List PV} {M : Mem} {Q : Option PV → Mem → Prop} : WP d 195 47 [some (vr x), l1, l2, l3, l4] (st) M Q = WP d 195 48 [some (vr x), l1, l2, l3, l4] (vr x :: st) M Q := w1 mC_195 d195_47 rfl rfl
theorem d195_48 : decode cX12_later 48 = .ok (.getfield 79, 3) := by decide +kernel
theorem k195_48 {d : Nat} {l0 l1 l2 l3 l4 : Option PV} {st : List PV} {M : Mem} {Q : Option PV → Mem → Prop} {r : Nat} (hk : mK M r = 12) : WP d 195 48 [l0, l1, l2, l3, l4] (vr r :: st) M Q = WP d 195 51 [l0, l1, l2, l3, l4] (vr (mR M r 40) :: st) M Q := w_getr mC_195 d195_48 fE_12_79 rfl (by rw [hk]; rfl)
theorem d195_51 : decode cX12_later 51 = .ok (.invokevirtual 272, 3) := by decide +kernel
theorem k195_51 {d : Nat} {l0 l1 l2 l3 l4 : Option PV} {st : List PV} {M : Mem} {Q : Option PV → Mem → Prop} {a0 : Nat} {r : Nat} (hl : szL st ≤ 8) (hk : mK M r = 12) : WP (d + 1) 195 51 [l0, l1, l2, l3, l4] (vr a0 :: vr r :: st) M Q = WP d 190 0 [some (vr r), some (vr a0), none] [] M (fun v M' => WP (d + 1) 195 54 [l0, l1, l2, l3, l4] (psh v st) M' Q) := w_callV mC_195 d195_51 (ci := 12) rfl rfl rfl (Nat.le_of_ble_eq_true rfl) (by decide) rfl hl hk
theorem d195_54 : decode cX12_later 54 = .ok (.aload_n 0, 1) := by decide +kernel
theorem k195_54 {d x : Nat} {l1 l2 l3 l4 : Option PV} {st : List PV} {M : Mem} {Q : Option PV → Mem → Prop} : WP d 195 54 [some (vr x), l1, l2, l3, l4] (st) M Q = WP d 195 55 [some (vr x), l1, l2, l3, l4] (vr x :: st) M Q := w1 mC_195 d195_54 rfl rfl
theorem d195_55 : decode cX12_later 55 = .ok (.iload_n 1, 1) := by decide +kernel
theorem k195_55 {d : Nat} {x : Int32} {l0 l2 l3 l4 : Option PV} {st : List PV} {M : Mem} {Q : Option PV → Mem → Prop} : WP d 195 55 [l0, some (vi x), l2, l3, l4] (st) M Q = WP d 195 56 [l0, some (vi x), l2, l3, l4] (vi x :: st) M Q := w1 mC_195 d195_55 rfl rfl
theorem d195_56 : decode cX12_later 56 = .ok (.invokevirtual 276, 3) := by decide +kernel
theorem k195_56 {d : Nat} {l0 l1 l2 l3 l4 : Option PV} {st : List PV} {M : Mem} {Q : Option PV → Mem → Prop} {a0 : Int32} {r : Nat} (hl : szL st ≤ 8) (hk : mK M r = 12) : WP (d + 1) 195 56 [l0, l1, l2, l3, l4] (vi a0 :: vr r :: st) M Q = WP d 189 0 [some (vr r), some (vi a0), none] [] M (fun v M' => WP (d + 1) 195 59 [l0, l1, l2, l3, l4] (psh v st) M' Q) := w_callV mC_195 d195_56 (ci := 12) rfl rfl rfl (Nat.le_of_ble_eq_true rfl) (by decide) rfl hl hk
theorem d195_59 : decode cX12_later 59 = .ok (.iload_n 3, 1) := by decide +kernel
theorem k195_59 {d : Nat} {x : Int32} {l0 l1 l2 l4 : Option PV} {st : List PV} {M : Mem} {Q : Option PV → Mem → Prop} : WP d 195 59 [l0, l1, l2, some (vi x), l4] (st) M Q = WP d 195 60 [l0, l1, l2, some (vi x), l4] (vi x :: st) M Q := w1 mC_195 d195_59 rfl rfl
theorem d195_60 : decode cX12_later 60 = .ok (.ifCond .ne 11, 3) := by decide +kernel
theorem k195_60 {d : Nat} {l0 l1 l2 l3 l4 : Option PV} {st : List PV} {M : Mem} {Q : Option PV → Mem → Prop} {x : Int32} : WP d 195 60 [l0, l1, l2, l3, l4] (vi x :: st) M Q = (if x = 0 then WP d 195 63 [l0, l1, l2, l3, l4] (st) M Q else WP d 195 71 [l0, l1, l2, l3, l4] (st) M Q) := w_if_ne mC_195 d195_60 (by decide)
theorem d195_63 : decode cX12_later 63 = .ok (.aload_n 0, 1) := by decide +kernel
theorem k195_63 {d x : Nat} {l1 l2 l3 l4 : Option PV} {st : List PV} {M : Mem} {Q : Option PV → Mem → Prop} : WP d 195 63 [some (vr x), l1, l2, l3, l4] (st) M Q = WP d 195 64 [some (vr x), l1, l2, l3, l4] (vr x :: st) M Q := w1 mC_195 d195_63 rfl rfl
theorem d195_64 : decode cX12_later 64 = .ok (.iload_n 2, 1) := by decide +kernel
theorem k195_64 {d : Nat} {x : Int32} {l0 l1 l3 l4 : Option PV} {st : List PV} {M : Mem} {Q : Option PV → Mem → Prop} : WP d 195 64 [l0, l1, some (vi x), l3, l4] (st) M Q = WP d 195 65 [l0, l1, some (vi x), l3, l4] (vi x :: st) M Q := w1 mC_195 d195_64 rfl rfl
theorem d195_65 : decode cX12_later 65 = .ok (.invokevirtual 228, 3) := by decide +kernel
theorem k195_65 {d : Nat} {l0 l1 l2 l3 l4 : Option PV} {st : List PV} {M : Mem} {Q : Option PV → Mem → Prop} {a0 : Int32} {r : Nat} (hl : szL st ≤ 8) (hk : mK M r = 12) : WP (d + 1) 195 65 [l0, l1, l2, l3, l4] (vi a0 :: vr r :: st) M Q = WP d 182 0 [some (vr r), some (vi a0)] [] M (fun v M' => WP (d + 1) 195 68 [l0, l1, l2, l3, l4] (psh v st) M' Q) := w_callV mC_195 d195_65 (ci := 12) rfl rfl rfl (Nat.le_of_ble_eq_true rfl) (by decide) rfl hl hk
theorem d195_68 : decode cX12_later 68 = .ok (.goto 42, 3) := by decide +kernel
theorem k195_68 {d : Nat} {l0 l1 l2 l3 l4 : Option PV} {st : List PV} {M : Mem} {Q : Option PV → Mem → Prop} : WP d 195 68 [l0, l1, l2, l3, l4] (st) M Q = WP d 195 110 [l0, l1, l2, l3, l4] (st) M Q := w_goto mC_195 d195_68 (by decide)
theorem d195_71 : decode cX12_later 71 = .ok (.iload_n 3, 1) := by decide +kernel
theorem k195_71 {d : Nat} {x : Int32} {l0 l1 l2 l4 : Option PV} {st : List PV} {M : Mem} {Q : Option PV → Mem → Prop} : WP d 195 71 [l0, l1, l2, some (vi x), l4] (st) M Q = WP d 195 72 [l0, l1, l2, some (vi x), l4] (vi x :: st) M Q := w1 mC_195 d195_71 rfl rfl
theorem d195_72 : decode cX12_later 72 = .ok (.iconst 1, 1) := by decide +kernel
theorem k195_72 {d : Nat} {l0 l1 l2 l3 l4 : Option PV} {st : List PV} {M : Mem} {Q : Option PV → Mem → Prop} : WP d 195 72 [l0, l1, l2, l3, l4] (st) M Q = WP d 195 73 [l0, l1, l2, l3, l4] (vi 1 :: st) M Q := w_iconst mC_195 d195_72 (by decide)
theorem d195_73 : decode cX12_later 73 = .ok (.if_icmp .ne 15, 3) := by decide +kernel
theorem k195_73 {d : Nat} {l0 l1 l2 l3 l4 : Option PV} {st : List PV} {M : Mem} {Q : Option PV → Mem → Prop} {x y : Int32} : WP d 195 73 [l0, l1, l2, l3, l4] (vi y :: vi x :: st) M Q = (if x = y then WP d 195 76 [l0, l1, l2, l3, l4] (st) M Q else WP d 195 88 [l0, l1, l2, l3, l4] (st) M Q) := w_ic_ne mC_195 d195_73 (by decide)
theorem d195_76 : decode cX12_later 76 = .ok (.aload_n 0, 1) := by decide +kernel
theorem k195_76 {d x : Nat} {l1 l2 l3 l4 : Option PV} {st : List PV} {M : Mem} {Q : Option PV → Mem → Prop} : WP d 195 76 [some (vr x), l1, l2, l3, l4] (st) M Q = WP d 195 77 [some (vr x), l1, l2, l3, l4] (vr x :: st) M Q := w1 mC_195 d195_76 rfl rfl
theorem d195_77 : decode cX12_later 77 = .ok (.getfield 9, 3) := by decide +kernel
theorem k195_77 {d : Nat} {l0 l1 l2 l3 l4 : Option PV} {st : List PV} {M : Mem} {Q : Option PV → Mem → Prop} {r : Nat} (hk : mK M r = 12) : WP d 195 77 [l0, l1, l2, l3, l4] (vr r :: st) M Q = WP d 195 80 [l0, l1, l2, l3, l4] (vr (mR M r 2) :: st) M Q := w_getr mC_195 d195_77 fE_12_9 rfl (by rw [hk]; rfl)
theorem d195_80 : decode cX12_later 80 = .ok (.bipush 16, 2) := by decide +kernel
theorem k195_80 {d : Nat} {l0 l1 l2 l3 l4 : Option PV} {st : List PV} {M : Mem} {Q : Option PV → Mem → Prop} : WP d 195 80 [l0, l1, l2, l3, l4] (st) M Q = WP d 195 82 [l0, l1, l2, l3, l4] (vi 16 :: st) M Q := w_bipush mC_195 d195_80 (by decide)
theorem d195_82 : decode cX12_later 82 = .ok (.iload_n 2, 1) := by decide +kernel
theorem k195_82 {d : Nat} {x : Int32} {l0 l1 l3 l4 : Option PV} {st : List PV} {M : Mem} {Q : Option PV → Mem → Prop} : WP d 195 82 [l0, l1, some (vi x), l3, l4] (st) M Q = WP d 195 83 [l0, l1, some (vi x), l3, l4] (vi x :: st) M Q := w1 mC_195 d195_82 rfl rfl
theorem d195_83 : decode cX12_later 83 = .ok (.iadd, 1) := by decide +kernel
theorem k195_83 {d : Nat} {l0 l1 l2 l3 l4 : Option PV} {st : List PV} {M : Mem} {Q : Option PV → Mem → Prop} {x y : Int32} : WP d 195 83 [l0, l1, l2, l3, l4] (vi y :: vi x :: st) M Q = WP d 195 84 [l0, l1, l2, l3, l4] (vi (x + y) :: st) M Q := w1 mC_195 d195_83 rfl rfl
theorem d195_84 : decode cX12_later 84 = .ok (.iaload, 1) := by decide +kernel
theorem k195_84 {d : Nat} {l0 l1 l2 l3 l4 : Option PV} {st : List PV} {M : Mem} {Q : Option PV → Mem → Prop} {r : Nat} {j : Int32} (hk : mK M r = 13) (hj : inb j (mN M r)) (h1 : r ≠ 1) : WP d 195 84 [l0, l1, l2, l3, l4] (vi j :: vr r :: st) M Q = WP d 195 85 [l0, l1, l2, l3, l4] (vi (mI M r (ix j)) :: st) M Q := w_iald mC_195 d195_84 (by decide) hk hj h1
theorem d195_85 : decode cX12_later 85 = .ok (.goto 25, 3) := by decide +kernel
theorem k195_85 {d : Nat} {l0 l1 l2 l3 l4 : Option PV} {st : List PV} {M : Mem} {Q : Option PV → Mem → Prop} : WP d 195 85 [l0, l1, l2, l3, l4] (st) M Q = WP d 195 110 [l0, l1, l2, l3, l4] (st) M Q := w_goto mC_195 d195_85 (by decide)
theorem d195_88 : decode cX12_later 88 = .ok (.iload_n 3, 1) := by decide +kernel
theorem k195_88 {d : Nat} {x : Int32} {l0 l1 l2 l4 : Option PV} {st : List PV} {M : Mem} {Q : Option PV → Mem → Prop} : WP d 195 88 [l0, l1, l2, some (vi x), l4] (st) M Q = WP d 195 89 [l0, l1, l2, some (vi x), l4] (vi x :: st) M Q := w1 mC_195 d195_88 rfl rfl
theorem d195_89 : decode cX12_later 89 = .ok (.iconst 2, 1) := by decide +kernel
theorem k195_89 {d : Nat} {l0 l1 l2 l3 l4 : Option PV} {st : List PV} {M : Mem} {Q : Option PV → Mem → Prop} : WP d 195 89 [l0, l1, l2, l3, l4] (st) M Q = WP d 195 90 [l0, l1, l2, l3, l4] (vi 2 :: st) M Q := w_iconst mC_195 d195_89 (by decide)
theorem d195_90 : decode cX12_later 90 = .ok (.if_icmp .ne 11, 3) := by decide +kernel
theorem k195_90 {d : Nat} {l0 l1 l2 l3 l4 : Option PV} {st : List PV} {M : Mem} {Q : Option PV → Mem → Prop} {x y : Int32} : WP d 195 90 [l0, l1, l2, l3, l4] (vi y :: vi x :: st) M Q = (if x = y then WP d 195 93 [l0, l1, l2, l3, l4] (st) M Q else WP d 195 101 [l0, l1, l2, l3, l4] (st) M Q) := w_ic_ne mC_195 d195_90 (by decide)
theorem d195_93 : decode cX12_later 93 = .ok (.aload_n 0, 1) := by decide +kernel
theorem k195_93 {d x : Nat} {l1 l2 l3 l4 : Option PV} {st : List PV} {M : Mem} {Q : Option PV → Mem → Prop} : WP d 195 93 [some (vr x), l1, l2, l3, l4] (st) M Q = WP d 195 94 [some (vr x), l1, l2, l3, l4] (vr x :: st) M Q := w1 mC_195 d195_93 rfl rfl
theorem d195_94 : decode cX12_later 94 = .ok (.iload_n 2, 1) := by decide +kernel
theorem k195_94 {d : Nat} {x : Int32} {l0 l1 l3 l4 : Option PV} {st : List PV} {M : Mem} {Q : Option PV → Mem → Prop} : WP d 195 94 [l0, l1, some (vi x), l3, l4] (st) M Q = WP d 195 95 [l0, l1, some (vi x), l3, l4] (vi x :: st) M Q := w1 mC_195 d195_94 rfl rfl
theorem d195_95 : decode cX12_later 95 = .ok (.invokevirtual 231, 3) := by decide +kernel
theorem k195_95 {d : Nat} {l0 l1 l2 l3 l4 : Option PV} {st : List PV} {M : Mem} {Q : Option PV → Mem → Prop} {a0 : Int32} {r : Nat} (hl : szL st ≤ 8) (hk : mK M r = 12) : WP (d + 1) 195 95 [l0, l1, l2, l3, l4] (vi a0 :: vr r :: st) M Q = WP d 181 0 [some (vr r), some (vi a0)] [] M (fun v M' => WP (d + 1) 195 98 [l0, l1, l2, l3, l4] (psh v st) M' Q) := w_callV mC_195 d195_95 (ci := 12) rfl rfl rfl (Nat.le_of_ble_eq_true rfl) (by decide) rfl hl hk
theorem d195_98 : decode cX12_later 98 = .ok (.goto 12, 3) := by decide +kernel
theorem k195_98 {d : Nat} {l0 l1 l2 l3 l4 : Option PV} {st : List PV} {M : Mem} {Q : Option PV → Mem → Prop} : WP d 195 98 [l0, l1, l2, l3, l4] (st) M Q = WP d 195 110 [l0, l1, l2, l3, l4] (st) M Q := w_goto mC_195 d195_98 (by decide)
theorem d195_101 : decode cX12_later 101 = .ok (.aload_n 0, 1) := by decide +kernel
theorem k195_101 {d x : Nat} {l1 l2 l3 l4 : Option PV} {st : List PV} {M : Mem} {Q : Option PV → Mem → Prop} : WP d 195 101 [some (vr x), l1, l2, l3, l4] (st) M Q = WP d 195 102 [some (vr x), l1, l2, l3, l4] (vr x :: st) M Q := w1 mC_195 d195_101 rfl rfl
theorem d195_102 : decode cX12_later 102 = .ok (.getfield 9, 3) := by decide +kernel
theorem k195_102 {d : Nat} {l0 l1 l2 l3 l4 : Option PV} {st : List PV} {M : Mem} {Q : Option PV → Mem → Prop} {r : Nat} (hk : mK M r = 12) : WP d 195 102 [l0, l1, l2, l3, l4] (vr r :: st) M Q = WP d 195 105 [l0, l1, l2, l3, l4] (vr (mR M r 2) :: st) M Q := w_getr mC_195 d195_102 fE_12_9 rfl (by rw [hk]; rfl)
theorem d195_105 : decode cX12_later 105 = .ok (.bipush 8, 2) := by decide +kernel
theorem k195_105 {d : Nat} {l0 l1 l2 l3 l4 : Option PV} {st : List PV} {M : Mem} {Q : Option PV → Mem → Prop} : WP d 195 105 [l0, l1, l2, l3, l4] (st) M Q = WP d 195 107 [l0, l1, l2, l3, l4] (vi 8 :: st) M Q := w_bipush mC_195 d195_105 (by decide)
theorem d195_107 : decode cX12_later 107 = .ok (.iload_n 2, 1) := by decide +kernel
theorem k195_107 {d : Nat} {x : Int32} {l0 l1 l3 l4 : Option PV} {st : List PV} {M : Mem} {Q : Option PV → Mem → Prop} : WP d 195 107 [l0, l1, some (vi x), l3, l4] (st) M Q = WP d 195 108 [l0, l1, some (vi x), l3, l4] (vi x :: st) M Q := w1 mC_195 d195_107 rfl rfl
theorem d195_108 : decode cX12_later 108 = .ok (.iadd, 1) := by decide +kernel
theorem k195_108 {d : Nat} {l0 l1 l2 l3 l4 : Option PV} {st : List PV} {M : Mem} {Q : Option PV → Mem → Prop} {x y : Int32} : WP d 195 108 [l0, l1, l2, l3, l4] (vi y :: vi x :: st) M Q = WP d 195 109 [l0, l1, l2, l3, l4] (vi (x + y) :: st) M Q := w1 mC_195 d195_108 rfl rfl
theorem d195_109 : decode cX12_later 109 = .ok (.iaload, 1) := by decide +kernel
theorem k195_109 {d : Nat} {l0 l1 l2 l3 l4 : Option PV} {st : List PV} {M : Mem} {Q : Option PV → Mem → Prop} {r : Nat} {j : Int32} (hk : mK M r = 13) (hj : inb j (mN M r)) (h1 : r ≠ 1) : WP d 195 109 [l0, l1, l2, l3, l4] (vi j :: vr r :: st) M Q = WP d 195 110 [l0, l1, l2, l3, l4] (vi (mI M r (ix j)) :: st) M Q := w_iald mC_195 d195_109 (by decide) hk hj h1
theorem d195_110 : decode cX12_later 110 = .ok (.istore 4, 2) := by decide +kernel
theorem k195_110 {d : Nat} {l0 l1 l2 l3 l4 : Option PV} {st : List PV} {M : Mem} {Q : Option PV → Mem → Prop} {x : Int32} : WP d 195 110 [l0, l1, l2, l3, l4] (vi x :: st) M Q = WP d 195 112 [l0, l1, l2, l3, some (vi x)] (st) M Q := w1 mC_195 d195_110 rfl rfl
theorem d195_112 : decode cX12_later 112 = .ok (.aload_n 0, 1) := by decide +kernel
theorem k195_112 {d x : Nat} {l1 l2 l3 l4 : Option PV} {st : List PV} {M : Mem} {Q : Option PV → Mem → Prop} : WP d 195 112 [some (vr x), l1, l2, l3, l4] (st) M Q = WP d 195 113 [some (vr x), l1, l2, l3, l4] (vr x :: st) M Q := w1 mC_195 d195_112 rfl rfl
theorem d195_113 : decode cX12_later 113 = .ok (.invokevirtual 279, 3) := by decide +kernel
theorem k195_113 {d : Nat} {l0 l1 l2 l3 l4 : Option PV} {st : List PV} {M : Mem} {Q : Option PV → Mem → Prop} {r : Nat} (hl : szL st ≤ 8) (hk : mK M r = 12) : WP (d + 1) 195 113 [l0, l1, l2, l3, l4] (vr r :: st) M Q = WP d 192 0 [some (vr r)] [] M (fun v M' => WP (d + 1) 195 116 [l0, l1, l2, l3, l4] (psh v st) M' Q) := w_callV mC_195 d195_113 (ci := 12) rfl rfl rfl (Nat.le_of_ble_eq_true rfl) (by decide) rfl hl hk
theorem d195_116 : decode cX12_later 116 = .ok (.iload 4, 2) := by decide +kernel
theorem k195_116 {d : Nat} {x : Int32} {l0 l1 l2 l3 : Option PV} {st : List PV} {M : Mem} {Q : Option PV → Mem → Prop} : WP d 195 116 [l0, l1, l2, l3, some (vi x)] (st) M Q = WP d 195 118 [l0, l1, l2, l3, some (vi x)] (vi x :: st) M Q := w1 mC_195 d195_116 rfl rfl
theorem d195_118 : decode cX12_later 118 = .ok (.ireturn, 1) := by decide +kernel
theorem k195_118 {d : Nat} {l0 l1 l2 l3 l4 : Option PV} {M : Mem} {Q : Option PV → Mem → Prop} {x : Int32} : WP d 195 118 [l0, l1, l2, l3, l4] ([vi x]) M Q = Q (some (vi x)) M := w_iret mC_195 d195_118 rfl
theorem d196_0 : decode cX12_marsh 0 = .ok (.iload_n 1, 1) := by decide +kernel
theorem k196_0 {d : Nat} {x : Int32} {l0 l2 l3 : Option PV} {st : List PV} {M : Mem} {Q : Option PV → Mem → Prop} : WP d 196 0 [l0, some (vi x), l2, l3] (st) M Q = WP d 196 1 [l0, some (vi x), l2, l3] (vi x :: st) M Q := w1 mC_196 d196_0 rfl rfl
theorem d196_1 : decode cX12_marsh 1 = .ok (.iconst 0, 1) := by decide +kernel
theorem k196_1 {d : Nat} {l0 l1 l2 l3 : Option PV} {st : List PV} {M : Mem} {Q : Option PV → Mem → Prop} : WP d 196 1 [l0, l1, l2, l3] (st) M Q = WP d 196 2 [l0, l1, l2, l3] (vi 0 :: st) M Q := w_iconst mC_196 d196_1 (by decide)
theorem d196_2 : decode cX12_marsh 2 = .ok (.bipush 40, 2) := by decide +kernel
theorem k196_2 {d : Nat} {l0 l1 l2 l3 : Option PV} {st : List PV} {M : Mem} {Q : Option PV → Mem → Prop} : WP d 196 2 [l0, l1, l2, l3] (st) M Q = WP d 196 4 [l0, l1, l2, l3] (vi 40 :: st) M Q := w_bipush mC_196 d196_2 (by decide)
theorem d196_4 : decode cX12_marsh 4 = .ok (.invokestatic 104, 3) := by decide +kernel
theorem k196_4 {d : Nat} {l0 l1 l2 l3 : Option PV} {st : List PV} {M : Mem} {Q : Option PV → Mem → Prop} {a0 a1 a2 : Int32} (hl : szL st ≤ 8) : WP (d + 1) 196 4 [l0, l1, l2, l3] (vi a2 :: vi a1 :: vi a0 :: st) M Q = WP d 145 0 [some (vi a0), some (vi a1), some (vi a2)] [] M (fun v M' => WP (d + 1) 196 7 [l0, l1, l2, l3] (psh v st) M' Q) := w_callS mC_196 d196_4 rfl rfl (Nat.le_of_ble_eq_true rfl) (by decide) rfl hl
theorem d196_7 : decode cX12_marsh 7 = .ok (.ifCond .eq 12, 3) := by decide +kernel
theorem k196_7 {d : Nat} {l0 l1 l2 l3 : Option PV} {st : List PV} {M : Mem} {Q : Option PV → Mem → Prop} {x : Int32} : WP d 196 7 [l0, l1, l2, l3] (vi x :: st) M Q = (if x = 0 then WP d 196 19 [l0, l1, l2, l3] (st) M Q else WP d 196 10 [l0, l1, l2, l3] (st) M Q) := w_if_eq mC_196 d196_7 (by decide)
theorem d196_10 : decode cX12_marsh 10 = .ok (.iload_n 2, 1) := by decide +kernel
theorem k196_10 {d : Nat} {x : Int32} {l0 l1 l3 : Option PV} {st : List PV} {M : Mem} {Q : Option PV → Mem → Prop} : WP d 196 10 [l0, l1, some (vi x), l3] (st) M Q = WP d 196 11 [l0, l1, some (vi x), l3] (vi x :: st) M Q := w1 mC_196 d196_10 rfl rfl
theorem d196_11 : decode cX12_marsh 11 = .ok (.iconst 0, 1) := by decide +kernel
theorem k196_11 {d : Nat} {l0 l1 l2 l3 : Option PV} {st : List PV} {M : Mem} {Q : Option PV → Mem → Prop} : WP d 196 11 [l0, l1, l2, l3] (st) M Q = WP d 196 12 [l0, l1, l2, l3] (vi 0 :: st) M Q := w_iconst mC_196 d196_11 (by decide)
theorem d196_12 : decode cX12_marsh 12 = .ok (.iconst 1, 1) := by decide +kernel
theorem k196_12 {d : Nat} {l0 l1 l2 l3 : Option PV} {st : List PV} {M : Mem} {Q : Option PV → Mem → Prop} : WP d 196 12 [l0, l1, l2, l3] (st) M Q = WP d 196 13 [l0, l1, l2, l3] (vi 1 :: st) M Q := w_iconst mC_196 d196_12 (by decide)
theorem d196_13 : decode cX12_marsh 13 = .ok (.invokestatic 104, 3) := by decide +kernel
theorem k196_13 {d : Nat} {l0 l1 l2 l3 : Option PV} {st : List PV} {M : Mem} {Q : Option PV → Mem → Prop} {a0 a1 a2 : Int32} (hl : szL st ≤ 8) : WP (d + 1) 196 13 [l0, l1, l2, l3] (vi a2 :: vi a1 :: vi a0 :: st) M Q = WP d 145 0 [some (vi a0), some (vi a1), some (vi a2)] [] M (fun v M' => WP (d + 1) 196 16 [l0, l1, l2, l3] (psh v st) M' Q) := w_callS mC_196 d196_13 rfl rfl (Nat.le_of_ble_eq_true rfl) (by decide) rfl hl
theorem d196_16 : decode cX12_marsh 16 = .ok (.ifCond .ne 5, 3) := by decide +kernel
theorem k196_16 {d : Nat} {l0 l1 l2 l3 : Option PV} {st : List PV} {M : Mem} {Q : Option PV → Mem → Prop} {x : Int32} : WP d 196 16 [l0, l1, l2, l3] (vi x :: st) M Q = (if x = 0 then WP d 196 19 [l0, l1, l2, l3] (st) M Q else WP d 196 21 [l0, l1, l2, l3] (st) M Q) := w_if_ne mC_196 d196_16 (by decide)
theorem d196_19 : decode cX12_marsh 19 = .ok (.iconst (-1), 1) := by decide +kernel
theorem k196_19 {d : Nat} {l0 l1 l2 l3 : Option PV} {st : List PV} {M : Mem} {Q : Option PV → Mem → Prop} : WP d 196 19 [l0, l1, l2, l3] (st) M Q = WP d 196 20 [l0, l1, l2, l3] (vi (-1) :: st) M Q := w_iconst mC_196 d196_19 (by decide)
theorem d196_20 : decode cX12_marsh 20 = .ok (.ireturn, 1) := by decide +kernel
theorem k196_20 {d : Nat} {l0 l1 l2 l3 : Option PV} {M : Mem} {Q : Option PV → Mem → Prop} {x : Int32} : WP d 196 20 [l0, l1, l2, l3] ([vi x]) M Q = Q (some (vi x)) M := w_iret mC_196 d196_20 rfl
theorem d196_21 : decode cX12_marsh 21 = .ok (.aload_n 0, 1) := by decide +kernel
theorem k196_21 {d x : Nat} {l1 l2 l3 : Option PV} {st : List PV} {M : Mem} {Q : Option PV → Mem → Prop} : WP d 196 21 [some (vr x), l1, l2, l3] (st) M Q = WP d 196 22 [some (vr x), l1, l2, l3] (vr x :: st) M Q := w1 mC_196 d196_21 rfl rfl
theorem d196_22 : decode cX12_marsh 22 = .ok (.aload_n 0, 1) := by decide +kernel
theorem k196_22 {d x : Nat} {l1 l2 l3 : Option PV} {st : List PV} {M : Mem} {Q : Option PV → Mem → Prop} : WP d 196 22 [some (vr x), l1, l2, l3] (st) M Q = WP d 196 23 [some (vr x), l1, l2, l3] (vr x :: st) M Q := w1 mC_196 d196_22 rfl rfl
theorem d196_23 : decode cX12_marsh 23 = .ok (.getfield 79, 3) := by decide +kernel
theorem k196_23 {d : Nat} {l0 l1 l2 l3 : Option PV} {st : List PV} {M : Mem} {Q : Option PV → Mem → Prop} {r : Nat} (hk : mK M r = 12) : WP d 196 23 [l0, l1, l2, l3] (vr r :: st) M Q = WP d 196 26 [l0, l1, l2, l3] (vr (mR M r 40) :: st) M Q := w_getr mC_196 d196_23 fE_12_79 rfl (by rw [hk]; rfl)
theorem d196_26 : decode cX12_marsh 26 = .ok (.invokevirtual 272, 3) := by decide +kernel
theorem k196_26 {d : Nat} {l0 l1 l2 l3 : Option PV} {st : List PV} {M : Mem} {Q : Option PV → Mem → Prop} {a0 : Nat} {r : Nat} (hl : szL st ≤ 8) (hk : mK M r = 12) : WP (d + 1) 196 26 [l0, l1, l2, l3] (vr a0 :: vr r :: st) M Q = WP d 190 0 [some (vr r), some (vr a0), none] [] M (fun v M' => WP (d + 1) 196 29 [l0, l1, l2, l3] (psh v st) M' Q) := w_callV mC_196 d196_26 (ci := 12) rfl rfl rfl (Nat.le_of_ble_eq_true rfl) (by decide) rfl hl hk
theorem d196_29 : decode cX12_marsh 29 = .ok (.aload_n 0, 1) := by decide +kernel
theorem k196_29 {d x : Nat} {l1 l2 l3 : Option PV} {st : List PV} {M : Mem} {Q : Option PV → Mem → Prop} : WP d 196 29 [some (vr x), l1, l2, l3] (st) M Q = WP d 196 30 [some (vr x), l1, l2, l3] (vr x :: st) M Q := w1 mC_196 d196_29 rfl rfl
theorem d196_30 : decode cX12_marsh 30 = .ok (.iload_n 1, 1) := by decide +kernel
theorem k196_30 {d : Nat} {x : Int32} {l0 l2 l3 : Option PV} {st : List PV} {M : Mem} {Q : Option PV → Mem → Prop} : WP d 196 30 [l0, some (vi x), l2, l3] (st) M Q = WP d 196 31 [l0, some (vi x), l2, l3] (vi x :: st) M Q := w1 mC_196 d196_30 rfl rfl
theorem d196_31 : decode cX12_marsh 31 = .ok (.invokevirtual 276, 3) := by decide +kernel
theorem k196_31 {d : Nat} {l0 l1 l2 l3 : Option PV} {st : List PV} {M : Mem} {Q : Option PV → Mem → Prop} {a0 : Int32} {r : Nat} (hl : szL st ≤ 8) (hk : mK M r = 12) : WP (d + 1) 196 31 [l0, l1, l2, l3] (vi a0 :: vr r :: st) M Q = WP d 189 0 [some (vr r), some (vi a0), none] [] M (fun v M' => WP (d + 1) 196 34 [l0, l1, l2, l3] (psh v st) M' Q) := w_callV mC_196 d196_31 (ci := 12) rfl rfl rfl (Nat.le_of_ble_eq_true rfl) (by decide) rfl hl hk
theorem d196_34 : decode cX12_marsh 34 = .ok (.iload_n 2, 1) := by decide +kernel
theorem k196_34 {d : Nat} {x : Int32} {l0 l1 l3 : Option PV} {st : List PV} {M : Mem} {Q : Option PV → Mem → Prop} : WP d 196 34 [l0, l1, some (vi x), l3] (st) M Q = WP d 196 35 [l0, l1, some (vi x), l3] (vi x :: st) M Q := w1 mC_196 d196_34 rfl rfl
theorem d196_35 : decode cX12_marsh 35 = .ok (.ifCond .ne 10, 3) := by decide +kernel
theorem k196_35 {d : Nat} {l0 l1 l2 l3 : Option PV} {st : List PV} {M : Mem} {Q : Option PV → Mem → Prop} {x : Int32} : WP d 196 35 [l0, l1, l2, l3] (vi x :: st) M Q = (if x = 0 then WP d 196 38 [l0, l1, l2, l3] (st) M Q else WP d 196 45 [l0, l1, l2, l3] (st) M Q) := w_if_ne mC_196 d196_35 (by decide)
theorem d196_38 : decode cX12_marsh 38 = .ok (.aload_n 0, 1) := by decide +kernel
theorem k196_38 {d x : Nat} {l1 l2 l3 : Option PV} {st : List PV} {M : Mem} {Q : Option PV → Mem → Prop} : WP d 196 38 [some (vr x), l1, l2, l3] (st) M Q = WP d 196 39 [some (vr x), l1, l2, l3] (vr x :: st) M Q := w1 mC_196 d196_38 rfl rfl
theorem d196_39 : decode cX12_marsh 39 = .ok (.invokevirtual 281, 3) := by decide +kernel
theorem k196_39 {d : Nat} {l0 l1 l2 l3 : Option PV} {st : List PV} {M : Mem} {Q : Option PV → Mem → Prop} {r : Nat} (hl : szL st ≤ 8) (hk : mK M r = 12) : WP (d + 1) 196 39 [l0, l1, l2, l3] (vr r :: st) M Q = WP d 193 0 [some (vr r), none, none] [] M (fun v M' => WP (d + 1) 196 42 [l0, l1, l2, l3] (psh v st) M' Q) := w_callV mC_196 d196_39 (ci := 12) rfl rfl rfl (Nat.le_of_ble_eq_true rfl) (by decide) rfl hl hk
theorem d196_42 : decode cX12_marsh 42 = .ok (.goto 7, 3) := by decide +kernel
theorem k196_42 {d : Nat} {l0 l1 l2 l3 : Option PV} {st : List PV} {M : Mem} {Q : Option PV → Mem → Prop} : WP d 196 42 [l0, l1, l2, l3] (st) M Q = WP d 196 49 [l0, l1, l2, l3] (st) M Q := w_goto mC_196 d196_42 (by decide)
theorem d196_45 : decode cX12_marsh 45 = .ok (.aload_n 0, 1) := by decide +kernel
theorem k196_45 {d x : Nat} {l1 l2 l3 : Option PV} {st : List PV} {M : Mem} {Q : Option PV → Mem → Prop} : WP d 196 45 [some (vr x), l1, l2, l3] (st) M Q = WP d 196 46 [some (vr x), l1, l2, l3] (vr x :: st) M Q := w1 mC_196 d196_45 rfl rfl
theorem d196_46 : decode cX12_marsh 46 = .ok (.invokevirtual 284, 3) := by decide +kernel
theorem k196_46 {d : Nat} {l0 l1 l2 l3 : Option PV} {st : List PV} {M : Mem} {Q : Option PV → Mem → Prop} {r : Nat} (hl : szL st ≤ 8) (hk : mK M r = 12) : WP (d + 1) 196 46 [l0, l1, l2, l3] (vr r :: st) M Q = WP d 194 0 [some (vr r), none, none] [] M (fun v M' => WP (d + 1) 196 49 [l0, l1, l2, l3] (psh v st) M' Q) := w_callV mC_196 d196_46 (ci := 12) rfl rfl rfl (Nat.le_of_ble_eq_true rfl) (by decide) rfl hl hk
theorem d196_49 : decode cX12_marsh 49 = .ok (.istore_n 3, 1) := by decide +kernel
theorem k196_49 {d : Nat} {l0 l1 l2 l3 : Option PV} {st : List PV} {M : Mem} {Q : Option PV → Mem → Prop} {x : Int32} : WP d 196 49 [l0, l1, l2, l3] (vi x :: st) M Q = WP d 196 50 [l0, l1, l2, some (vi x)] (st) M Q := w1 mC_196 d196_49 rfl rfl
theorem d196_50 : decode cX12_marsh 50 = .ok (.aload_n 0, 1) := by decide +kernel
theorem k196_50 {d x : Nat} {l1 l2 l3 : Option PV} {st : List PV} {M : Mem} {Q : Option PV → Mem → Prop} : WP d 196 50 [some (vr x), l1, l2, l3] (st) M Q = WP d 196 51 [some (vr x), l1, l2, l3] (vr x :: st) M Q := w1 mC_196 d196_50 rfl rfl
theorem d196_51 : decode cX12_marsh 51 = .ok (.invokevirtual 279, 3) := by decide +kernel
theorem k196_51 {d : Nat} {l0 l1 l2 l3 : Option PV} {st : List PV} {M : Mem} {Q : Option PV → Mem → Prop} {r : Nat} (hl : szL st ≤ 8) (hk : mK M r = 12) : WP (d + 1) 196 51 [l0, l1, l2, l3] (vr r :: st) M Q = WP d 192 0 [some (vr r)] [] M (fun v M' => WP (d + 1) 196 54 [l0, l1, l2, l3] (psh v st) M' Q) := w_callV mC_196 d196_51 (ci := 12) rfl rfl rfl (Nat.le_of_ble_eq_true rfl) (by decide) rfl hl hk
theorem d196_54 : decode cX12_marsh 54 = .ok (.iload_n 3, 1) := by decide +kernel
theorem k196_54 {d : Nat} {x : Int32} {l0 l1 l2 : Option PV} {st : List PV} {M : Mem} {Q : Option PV → Mem → Prop} : WP d 196 54 [l0, l1, l2, some (vi x)] (st) M Q = WP d 196 55 [l0, l1, l2, some (vi x)] (vi x :: st) M Q := w1 mC_196 d196_54 rfl rfl
theorem d196_55 : decode cX12_marsh 55 = .ok (.ireturn, 1) := by decide +kernel
theorem k196_55 {d : Nat} {l0 l1 l2 l3 : Option PV} {M : Mem} {Q : Option PV → Mem → Prop} {x : Int32} : WP d 196 55 [l0, l1, l2, l3] ([vi x]) M Q = Q (some (vi x)) M := w_iret mC_196 d196_55 rfl
