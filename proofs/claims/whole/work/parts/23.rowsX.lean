/-! step rows, by program (wip/whole/gen_rows.py) -/
theorem d129_0 : decode cX11_reedOf 0 = .ok (.iload_n 1, 1) := by decide +kernel
theorem k129_0 {d : Nat} {x : Int32} {l0 l2 : Option PV} {st : List PV} {M : Mem} {Q : Option PV → Mem → Prop} : WP d 129 0 [l0, some (vi x), l2] (st) M Q = WP d 129 1 [l0, some (vi x), l2] (vi x :: st) M Q := w1 mC_129 d129_0 rfl rfl
theorem d129_1 : decode cX11_reedOf 1 = .ok (.tableswitch 141 1 7 #[43, 57, 71, 85, 99, 113, 127], 43) := by decide +kernel
theorem k129_1c1 {d : Nat} {l0 l1 l2 : Option PV} {st : List PV} {M : Mem} {Q : Option PV → Mem → Prop} : WP d 129 1 [l0, l1, l2] (vi 1 :: st) M Q = WP d 129 44 [l0, l1, l2] (st) M Q := w_sw mC_129 d129_1 (by decide +kernel)
theorem k129_1c2 {d : Nat} {l0 l1 l2 : Option PV} {st : List PV} {M : Mem} {Q : Option PV → Mem → Prop} : WP d 129 1 [l0, l1, l2] (vi 2 :: st) M Q = WP d 129 58 [l0, l1, l2] (st) M Q := w_sw mC_129 d129_1 (by decide +kernel)
theorem k129_1c3 {d : Nat} {l0 l1 l2 : Option PV} {st : List PV} {M : Mem} {Q : Option PV → Mem → Prop} : WP d 129 1 [l0, l1, l2] (vi 3 :: st) M Q = WP d 129 72 [l0, l1, l2] (st) M Q := w_sw mC_129 d129_1 (by decide +kernel)
theorem k129_1c4 {d : Nat} {l0 l1 l2 : Option PV} {st : List PV} {M : Mem} {Q : Option PV → Mem → Prop} : WP d 129 1 [l0, l1, l2] (vi 4 :: st) M Q = WP d 129 86 [l0, l1, l2] (st) M Q := w_sw mC_129 d129_1 (by decide +kernel)
theorem k129_1c5 {d : Nat} {l0 l1 l2 : Option PV} {st : List PV} {M : Mem} {Q : Option PV → Mem → Prop} : WP d 129 1 [l0, l1, l2] (vi 5 :: st) M Q = WP d 129 100 [l0, l1, l2] (st) M Q := w_sw mC_129 d129_1 (by decide +kernel)
theorem k129_1c6 {d : Nat} {l0 l1 l2 : Option PV} {st : List PV} {M : Mem} {Q : Option PV → Mem → Prop} : WP d 129 1 [l0, l1, l2] (vi 6 :: st) M Q = WP d 129 114 [l0, l1, l2] (st) M Q := w_sw mC_129 d129_1 (by decide +kernel)
theorem k129_1c7 {d : Nat} {l0 l1 l2 : Option PV} {st : List PV} {M : Mem} {Q : Option PV → Mem → Prop} : WP d 129 1 [l0, l1, l2] (vi 7 :: st) M Q = WP d 129 128 [l0, l1, l2] (st) M Q := w_sw mC_129 d129_1 (by decide +kernel)
theorem k129_1 {d : Nat} {l0 l1 l2 : Option PV} {st : List PV} {M : Mem} {Q : Option PV → Mem → Prop} {x : Int32} (h : x.toInt < 1 ∨ 7 < x.toInt) : WP d 129 1 [l0, l1, l2] (vi x :: st) M Q = WP d 129 142 [l0, l1, l2] (st) M Q := w_swd mC_129 d129_1 (by decide) h
theorem d129_44 : decode cX11_reedOf 44 = .ok (.new 327, 3) := by decide +kernel
theorem k129_44 {d : Nat} {l0 l1 l2 : Option PV} {st : List PV} {M : Mem} {Q : Option PV → Mem → Prop} : WP d 129 44 [l0, l1, l2] (st) M Q = WP d 129 47 [l0, l1, l2] (vr (mX M) :: st) (nw M 6 0 3) Q := w_new mC_129 d129_44 (k := 6) rfl
theorem d129_47 : decode cX11_reedOf 47 = .ok (.dup, 1) := by decide +kernel
theorem k129_47 {d : Nat} {l0 l1 l2 : Option PV} {st : List PV} {M : Mem} {Q : Option PV → Mem → Prop} {x : Nat} : WP d 129 47 [l0, l1, l2] (vr x :: st) M Q = WP d 129 48 [l0, l1, l2] (vr x :: vr x :: st) M Q := w1 mC_129 d129_47 rfl rfl
theorem k129_47i {d : Nat} {l0 l1 l2 : Option PV} {st : List PV} {M : Mem} {Q : Option PV → Mem → Prop} {x : Int32} : WP d 129 47 [l0, l1, l2] (vi x :: st) M Q = WP d 129 48 [l0, l1, l2] (vi x :: vi x :: st) M Q := w1 mC_129 d129_47 rfl rfl
theorem d129_48 : decode cX11_reedOf 48 = .ok (.iload_n 1, 1) := by decide +kernel
theorem k129_48 {d : Nat} {x : Int32} {l0 l2 : Option PV} {st : List PV} {M : Mem} {Q : Option PV → Mem → Prop} : WP d 129 48 [l0, some (vi x), l2] (st) M Q = WP d 129 49 [l0, some (vi x), l2] (vi x :: st) M Q := w1 mC_129 d129_48 rfl rfl
theorem d129_49 : decode cX11_reedOf 49 = .ok (.iload_n 2, 1) := by decide +kernel
theorem k129_49 {d : Nat} {x : Int32} {l0 l1 : Option PV} {st : List PV} {M : Mem} {Q : Option PV → Mem → Prop} : WP d 129 49 [l0, l1, some (vi x)] (st) M Q = WP d 129 50 [l0, l1, some (vi x)] (vi x :: st) M Q := w1 mC_129 d129_49 rfl rfl
theorem d129_50 : decode cX11_reedOf 50 = .ok (.aload_n 0, 1) := by decide +kernel
theorem k129_50 {d x : Nat} {l1 l2 : Option PV} {st : List PV} {M : Mem} {Q : Option PV → Mem → Prop} : WP d 129 50 [some (vr x), l1, l2] (st) M Q = WP d 129 51 [some (vr x), l1, l2] (vr x :: st) M Q := w1 mC_129 d129_50 rfl rfl
theorem d129_51 : decode cX11_reedOf 51 = .ok (.getfield 53, 3) := by decide +kernel
theorem k129_51 {d : Nat} {l0 l1 l2 : Option PV} {st : List PV} {M : Mem} {Q : Option PV → Mem → Prop} {r : Nat} (hk : mK M r = 11) : WP d 129 51 [l0, l1, l2] (vr r :: st) M Q = WP d 129 54 [l0, l1, l2] (vr (mR M r 15) :: st) M Q := w_getr mC_129 d129_51 fE_11_53 rfl (by rw [hk]; rfl)
theorem d129_54 : decode cX11_reedOf 54 = .ok (.invokespecial 329, 3) := by decide +kernel
theorem k129_54 {d : Nat} {l0 l1 l2 : Option PV} {st : List PV} {M : Mem} {Q : Option PV → Mem → Prop} {a0 a1 : Int32} {a2 : Nat} {r : Nat} (hl : szL st ≤ 8) (hk : mK M r < 13) : WP (d + 1) 129 54 [l0, l1, l2] (vr a2 :: vi a1 :: vi a0 :: vr r :: st) M Q = WP d 48 0 [some (vr r), some (vi a0), some (vi a1), some (vr a2)] [] M (fun v M' => WP (d + 1) 129 57 [l0, l1, l2] (psh v st) M' Q) := w_callI mC_129 d129_54 rfl rfl (Nat.le_of_ble_eq_true rfl) (by decide) rfl hl hk
theorem d129_57 : decode cX11_reedOf 57 = .ok (.areturn, 1) := by decide +kernel
theorem k129_57 {d : Nat} {l0 l1 l2 : Option PV} {M : Mem} {Q : Option PV → Mem → Prop} {r : Nat} (hr : 2 ≤ r) : WP d 129 57 [l0, l1, l2] ([vr r]) M Q = Q (some (vr r)) M := w_aret mC_129 d129_57 rfl hr
theorem d129_58 : decode cX11_reedOf 58 = .ok (.new 332, 3) := by decide +kernel
theorem k129_58 {d : Nat} {l0 l1 l2 : Option PV} {st : List PV} {M : Mem} {Q : Option PV → Mem → Prop} : WP d 129 58 [l0, l1, l2] (st) M Q = WP d 129 61 [l0, l1, l2] (vr (mX M) :: st) (nw M 1 0 3) Q := w_new mC_129 d129_58 (k := 1) rfl
theorem d129_61 : decode cX11_reedOf 61 = .ok (.dup, 1) := by decide +kernel
theorem k129_61 {d : Nat} {l0 l1 l2 : Option PV} {st : List PV} {M : Mem} {Q : Option PV → Mem → Prop} {x : Nat} : WP d 129 61 [l0, l1, l2] (vr x :: st) M Q = WP d 129 62 [l0, l1, l2] (vr x :: vr x :: st) M Q := w1 mC_129 d129_61 rfl rfl
theorem k129_61i {d : Nat} {l0 l1 l2 : Option PV} {st : List PV} {M : Mem} {Q : Option PV → Mem → Prop} {x : Int32} : WP d 129 61 [l0, l1, l2] (vi x :: st) M Q = WP d 129 62 [l0, l1, l2] (vi x :: vi x :: st) M Q := w1 mC_129 d129_61 rfl rfl
theorem d129_62 : decode cX11_reedOf 62 = .ok (.iload_n 1, 1) := by decide +kernel
theorem k129_62 {d : Nat} {x : Int32} {l0 l2 : Option PV} {st : List PV} {M : Mem} {Q : Option PV → Mem → Prop} : WP d 129 62 [l0, some (vi x), l2] (st) M Q = WP d 129 63 [l0, some (vi x), l2] (vi x :: st) M Q := w1 mC_129 d129_62 rfl rfl
theorem d129_63 : decode cX11_reedOf 63 = .ok (.iload_n 2, 1) := by decide +kernel
theorem k129_63 {d : Nat} {x : Int32} {l0 l1 : Option PV} {st : List PV} {M : Mem} {Q : Option PV → Mem → Prop} : WP d 129 63 [l0, l1, some (vi x)] (st) M Q = WP d 129 64 [l0, l1, some (vi x)] (vi x :: st) M Q := w1 mC_129 d129_63 rfl rfl
theorem d129_64 : decode cX11_reedOf 64 = .ok (.aload_n 0, 1) := by decide +kernel
theorem k129_64 {d x : Nat} {l1 l2 : Option PV} {st : List PV} {M : Mem} {Q : Option PV → Mem → Prop} : WP d 129 64 [some (vr x), l1, l2] (st) M Q = WP d 129 65 [some (vr x), l1, l2] (vr x :: st) M Q := w1 mC_129 d129_64 rfl rfl
theorem d129_65 : decode cX11_reedOf 65 = .ok (.getfield 53, 3) := by decide +kernel
theorem k129_65 {d : Nat} {l0 l1 l2 : Option PV} {st : List PV} {M : Mem} {Q : Option PV → Mem → Prop} {r : Nat} (hk : mK M r = 11) : WP d 129 65 [l0, l1, l2] (vr r :: st) M Q = WP d 129 68 [l0, l1, l2] (vr (mR M r 15) :: st) M Q := w_getr mC_129 d129_65 fE_11_53 rfl (by rw [hk]; rfl)
theorem d129_68 : decode cX11_reedOf 68 = .ok (.invokespecial 334, 3) := by decide +kernel
theorem k129_68 {d : Nat} {l0 l1 l2 : Option PV} {st : List PV} {M : Mem} {Q : Option PV → Mem → Prop} {a0 a1 : Int32} {a2 : Nat} {r : Nat} (hl : szL st ≤ 8) (hk : mK M r < 13) : WP (d + 1) 129 68 [l0, l1, l2] (vr a2 :: vi a1 :: vi a0 :: vr r :: st) M Q = WP d 3 0 [some (vr r), some (vi a0), some (vi a1), some (vr a2)] [] M (fun v M' => WP (d + 1) 129 71 [l0, l1, l2] (psh v st) M' Q) := w_callI mC_129 d129_68 rfl rfl (Nat.le_of_ble_eq_true rfl) (by decide) rfl hl hk
theorem d129_71 : decode cX11_reedOf 71 = .ok (.areturn, 1) := by decide +kernel
theorem k129_71 {d : Nat} {l0 l1 l2 : Option PV} {M : Mem} {Q : Option PV → Mem → Prop} {r : Nat} (hr : 2 ≤ r) : WP d 129 71 [l0, l1, l2] ([vr r]) M Q = Q (some (vr r)) M := w_aret mC_129 d129_71 rfl hr
theorem d129_72 : decode cX11_reedOf 72 = .ok (.new 335, 3) := by decide +kernel
theorem k129_72 {d : Nat} {l0 l1 l2 : Option PV} {st : List PV} {M : Mem} {Q : Option PV → Mem → Prop} : WP d 129 72 [l0, l1, l2] (st) M Q = WP d 129 75 [l0, l1, l2] (vr (mX M) :: st) (nw M 5 0 3) Q := w_new mC_129 d129_72 (k := 5) rfl
theorem d129_75 : decode cX11_reedOf 75 = .ok (.dup, 1) := by decide +kernel
theorem k129_75 {d : Nat} {l0 l1 l2 : Option PV} {st : List PV} {M : Mem} {Q : Option PV → Mem → Prop} {x : Nat} : WP d 129 75 [l0, l1, l2] (vr x :: st) M Q = WP d 129 76 [l0, l1, l2] (vr x :: vr x :: st) M Q := w1 mC_129 d129_75 rfl rfl
theorem k129_75i {d : Nat} {l0 l1 l2 : Option PV} {st : List PV} {M : Mem} {Q : Option PV → Mem → Prop} {x : Int32} : WP d 129 75 [l0, l1, l2] (vi x :: st) M Q = WP d 129 76 [l0, l1, l2] (vi x :: vi x :: st) M Q := w1 mC_129 d129_75 rfl rfl
theorem d129_76 : decode cX11_reedOf 76 = .ok (.iload_n 1, 1) := by decide +kernel
theorem k129_76 {d : Nat} {x : Int32} {l0 l2 : Option PV} {st : List PV} {M : Mem} {Q : Option PV → Mem → Prop} : WP d 129 76 [l0, some (vi x), l2] (st) M Q = WP d 129 77 [l0, some (vi x), l2] (vi x :: st) M Q := w1 mC_129 d129_76 rfl rfl
theorem d129_77 : decode cX11_reedOf 77 = .ok (.iload_n 2, 1) := by decide +kernel
theorem k129_77 {d : Nat} {x : Int32} {l0 l1 : Option PV} {st : List PV} {M : Mem} {Q : Option PV → Mem → Prop} : WP d 129 77 [l0, l1, some (vi x)] (st) M Q = WP d 129 78 [l0, l1, some (vi x)] (vi x :: st) M Q := w1 mC_129 d129_77 rfl rfl
theorem d129_78 : decode cX11_reedOf 78 = .ok (.aload_n 0, 1) := by decide +kernel
theorem k129_78 {d x : Nat} {l1 l2 : Option PV} {st : List PV} {M : Mem} {Q : Option PV → Mem → Prop} : WP d 129 78 [some (vr x), l1, l2] (st) M Q = WP d 129 79 [some (vr x), l1, l2] (vr x :: st) M Q := w1 mC_129 d129_78 rfl rfl
theorem d129_79 : decode cX11_reedOf 79 = .ok (.getfield 53, 3) := by decide +kernel
theorem k129_79 {d : Nat} {l0 l1 l2 : Option PV} {st : List PV} {M : Mem} {Q : Option PV → Mem → Prop} {r : Nat} (hk : mK M r = 11) : WP d 129 79 [l0, l1, l2] (vr r :: st) M Q = WP d 129 82 [l0, l1, l2] (vr (mR M r 15) :: st) M Q := w_getr mC_129 d129_79 fE_11_53 rfl (by rw [hk]; rfl)
theorem d129_82 : decode cX11_reedOf 82 = .ok (.invokespecial 337, 3) := by decide +kernel
theorem k129_82 {d : Nat} {l0 l1 l2 : Option PV} {st : List PV} {M : Mem} {Q : Option PV → Mem → Prop} {a0 a1 : Int32} {a2 : Nat} {r : Nat} (hl : szL st ≤ 8) (hk : mK M r < 13) : WP (d + 1) 129 82 [l0, l1, l2] (vr a2 :: vi a1 :: vi a0 :: vr r :: st) M Q = WP d 45 0 [some (vr r), some (vi a0), some (vi a1), some (vr a2)] [] M (fun v M' => WP (d + 1) 129 85 [l0, l1, l2] (psh v st) M' Q) := w_callI mC_129 d129_82 rfl rfl (Nat.le_of_ble_eq_true rfl) (by decide) rfl hl hk
theorem d129_85 : decode cX11_reedOf 85 = .ok (.areturn, 1) := by decide +kernel
theorem k129_85 {d : Nat} {l0 l1 l2 : Option PV} {M : Mem} {Q : Option PV → Mem → Prop} {r : Nat} (hr : 2 ≤ r) : WP d 129 85 [l0, l1, l2] ([vr r]) M Q = Q (some (vr r)) M := w_aret mC_129 d129_85 rfl hr
theorem d129_86 : decode cX11_reedOf 86 = .ok (.new 338, 3) := by decide +kernel
theorem k129_86 {d : Nat} {l0 l1 l2 : Option PV} {st : List PV} {M : Mem} {Q : Option PV → Mem → Prop} : WP d 129 86 [l0, l1, l2] (st) M Q = WP d 129 89 [l0, l1, l2] (vr (mX M) :: st) (nw M 7 0 3) Q := w_new mC_129 d129_86 (k := 7) rfl
theorem d129_89 : decode cX11_reedOf 89 = .ok (.dup, 1) := by decide +kernel
theorem k129_89 {d : Nat} {l0 l1 l2 : Option PV} {st : List PV} {M : Mem} {Q : Option PV → Mem → Prop} {x : Nat} : WP d 129 89 [l0, l1, l2] (vr x :: st) M Q = WP d 129 90 [l0, l1, l2] (vr x :: vr x :: st) M Q := w1 mC_129 d129_89 rfl rfl
theorem k129_89i {d : Nat} {l0 l1 l2 : Option PV} {st : List PV} {M : Mem} {Q : Option PV → Mem → Prop} {x : Int32} : WP d 129 89 [l0, l1, l2] (vi x :: st) M Q = WP d 129 90 [l0, l1, l2] (vi x :: vi x :: st) M Q := w1 mC_129 d129_89 rfl rfl
theorem d129_90 : decode cX11_reedOf 90 = .ok (.iload_n 1, 1) := by decide +kernel
theorem k129_90 {d : Nat} {x : Int32} {l0 l2 : Option PV} {st : List PV} {M : Mem} {Q : Option PV → Mem → Prop} : WP d 129 90 [l0, some (vi x), l2] (st) M Q = WP d 129 91 [l0, some (vi x), l2] (vi x :: st) M Q := w1 mC_129 d129_90 rfl rfl
theorem d129_91 : decode cX11_reedOf 91 = .ok (.iload_n 2, 1) := by decide +kernel
theorem k129_91 {d : Nat} {x : Int32} {l0 l1 : Option PV} {st : List PV} {M : Mem} {Q : Option PV → Mem → Prop} : WP d 129 91 [l0, l1, some (vi x)] (st) M Q = WP d 129 92 [l0, l1, some (vi x)] (vi x :: st) M Q := w1 mC_129 d129_91 rfl rfl
theorem d129_92 : decode cX11_reedOf 92 = .ok (.aload_n 0, 1) := by decide +kernel
theorem k129_92 {d x : Nat} {l1 l2 : Option PV} {st : List PV} {M : Mem} {Q : Option PV → Mem → Prop} : WP d 129 92 [some (vr x), l1, l2] (st) M Q = WP d 129 93 [some (vr x), l1, l2] (vr x :: st) M Q := w1 mC_129 d129_92 rfl rfl
theorem d129_93 : decode cX11_reedOf 93 = .ok (.getfield 53, 3) := by decide +kernel
theorem k129_93 {d : Nat} {l0 l1 l2 : Option PV} {st : List PV} {M : Mem} {Q : Option PV → Mem → Prop} {r : Nat} (hk : mK M r = 11) : WP d 129 93 [l0, l1, l2] (vr r :: st) M Q = WP d 129 96 [l0, l1, l2] (vr (mR M r 15) :: st) M Q := w_getr mC_129 d129_93 fE_11_53 rfl (by rw [hk]; rfl)
theorem d129_96 : decode cX11_reedOf 96 = .ok (.invokespecial 340, 3) := by decide +kernel
theorem k129_96 {d : Nat} {l0 l1 l2 : Option PV} {st : List PV} {M : Mem} {Q : Option PV → Mem → Prop} {a0 a1 : Int32} {a2 : Nat} {r : Nat} (hl : szL st ≤ 8) (hk : mK M r < 13) : WP (d + 1) 129 96 [l0, l1, l2] (vr a2 :: vi a1 :: vi a0 :: vr r :: st) M Q = WP d 50 0 [some (vr r), some (vi a0), some (vi a1), some (vr a2)] [] M (fun v M' => WP (d + 1) 129 99 [l0, l1, l2] (psh v st) M' Q) := w_callI mC_129 d129_96 rfl rfl (Nat.le_of_ble_eq_true rfl) (by decide) rfl hl hk
theorem d129_99 : decode cX11_reedOf 99 = .ok (.areturn, 1) := by decide +kernel
theorem k129_99 {d : Nat} {l0 l1 l2 : Option PV} {M : Mem} {Q : Option PV → Mem → Prop} {r : Nat} (hr : 2 ≤ r) : WP d 129 99 [l0, l1, l2] ([vr r]) M Q = Q (some (vr r)) M := w_aret mC_129 d129_99 rfl hr
theorem d129_100 : decode cX11_reedOf 100 = .ok (.new 341, 3) := by decide +kernel
theorem k129_100 {d : Nat} {l0 l1 l2 : Option PV} {st : List PV} {M : Mem} {Q : Option PV → Mem → Prop} : WP d 129 100 [l0, l1, l2] (st) M Q = WP d 129 103 [l0, l1, l2] (vr (mX M) :: st) (nw M 0 0 3) Q := w_new mC_129 d129_100 (k := 0) rfl
theorem d129_103 : decode cX11_reedOf 103 = .ok (.dup, 1) := by decide +kernel
theorem k129_103 {d : Nat} {l0 l1 l2 : Option PV} {st : List PV} {M : Mem} {Q : Option PV → Mem → Prop} {x : Nat} : WP d 129 103 [l0, l1, l2] (vr x :: st) M Q = WP d 129 104 [l0, l1, l2] (vr x :: vr x :: st) M Q := w1 mC_129 d129_103 rfl rfl
theorem k129_103i {d : Nat} {l0 l1 l2 : Option PV} {st : List PV} {M : Mem} {Q : Option PV → Mem → Prop} {x : Int32} : WP d 129 103 [l0, l1, l2] (vi x :: st) M Q = WP d 129 104 [l0, l1, l2] (vi x :: vi x :: st) M Q := w1 mC_129 d129_103 rfl rfl
theorem d129_104 : decode cX11_reedOf 104 = .ok (.iload_n 1, 1) := by decide +kernel
theorem k129_104 {d : Nat} {x : Int32} {l0 l2 : Option PV} {st : List PV} {M : Mem} {Q : Option PV → Mem → Prop} : WP d 129 104 [l0, some (vi x), l2] (st) M Q = WP d 129 105 [l0, some (vi x), l2] (vi x :: st) M Q := w1 mC_129 d129_104 rfl rfl
theorem d129_105 : decode cX11_reedOf 105 = .ok (.iload_n 2, 1) := by decide +kernel
theorem k129_105 {d : Nat} {x : Int32} {l0 l1 : Option PV} {st : List PV} {M : Mem} {Q : Option PV → Mem → Prop} : WP d 129 105 [l0, l1, some (vi x)] (st) M Q = WP d 129 106 [l0, l1, some (vi x)] (vi x :: st) M Q := w1 mC_129 d129_105 rfl rfl
theorem d129_106 : decode cX11_reedOf 106 = .ok (.aload_n 0, 1) := by decide +kernel
theorem k129_106 {d x : Nat} {l1 l2 : Option PV} {st : List PV} {M : Mem} {Q : Option PV → Mem → Prop} : WP d 129 106 [some (vr x), l1, l2] (st) M Q = WP d 129 107 [some (vr x), l1, l2] (vr x :: st) M Q := w1 mC_129 d129_106 rfl rfl
theorem d129_107 : decode cX11_reedOf 107 = .ok (.getfield 53, 3) := by decide +kernel
theorem k129_107 {d : Nat} {l0 l1 l2 : Option PV} {st : List PV} {M : Mem} {Q : Option PV → Mem → Prop} {r : Nat} (hk : mK M r = 11) : WP d 129 107 [l0, l1, l2] (vr r :: st) M Q = WP d 129 110 [l0, l1, l2] (vr (mR M r 15) :: st) M Q := w_getr mC_129 d129_107 fE_11_53 rfl (by rw [hk]; rfl)
theorem d129_110 : decode cX11_reedOf 110 = .ok (.invokespecial 343, 3) := by decide +kernel
theorem k129_110 {d : Nat} {l0 l1 l2 : Option PV} {st : List PV} {M : Mem} {Q : Option PV → Mem → Prop} {a0 a1 : Int32} {a2 : Nat} {r : Nat} (hl : szL st ≤ 8) (hk : mK M r < 13) : WP (d + 1) 129 110 [l0, l1, l2] (vr a2 :: vi a1 :: vi a0 :: vr r :: st) M Q = WP d 1 0 [some (vr r), some (vi a0), some (vi a1), some (vr a2)] [] M (fun v M' => WP (d + 1) 129 113 [l0, l1, l2] (psh v st) M' Q) := w_callI mC_129 d129_110 rfl rfl (Nat.le_of_ble_eq_true rfl) (by decide) rfl hl hk
theorem d129_113 : decode cX11_reedOf 113 = .ok (.areturn, 1) := by decide +kernel
theorem k129_113 {d : Nat} {l0 l1 l2 : Option PV} {M : Mem} {Q : Option PV → Mem → Prop} {r : Nat} (hr : 2 ≤ r) : WP d 129 113 [l0, l1, l2] ([vr r]) M Q = Q (some (vr r)) M := w_aret mC_129 d129_113 rfl hr
theorem d129_114 : decode cX11_reedOf 114 = .ok (.new 344, 3) := by decide +kernel
theorem k129_114 {d : Nat} {l0 l1 l2 : Option PV} {st : List PV} {M : Mem} {Q : Option PV → Mem → Prop} : WP d 129 114 [l0, l1, l2] (st) M Q = WP d 129 117 [l0, l1, l2] (vr (mX M) :: st) (nw M 2 0 3) Q := w_new mC_129 d129_114 (k := 2) rfl
theorem d129_117 : decode cX11_reedOf 117 = .ok (.dup, 1) := by decide +kernel
theorem k129_117 {d : Nat} {l0 l1 l2 : Option PV} {st : List PV} {M : Mem} {Q : Option PV → Mem → Prop} {x : Nat} : WP d 129 117 [l0, l1, l2] (vr x :: st) M Q = WP d 129 118 [l0, l1, l2] (vr x :: vr x :: st) M Q := w1 mC_129 d129_117 rfl rfl
theorem k129_117i {d : Nat} {l0 l1 l2 : Option PV} {st : List PV} {M : Mem} {Q : Option PV → Mem → Prop} {x : Int32} : WP d 129 117 [l0, l1, l2] (vi x :: st) M Q = WP d 129 118 [l0, l1, l2] (vi x :: vi x :: st) M Q := w1 mC_129 d129_117 rfl rfl
theorem d129_118 : decode cX11_reedOf 118 = .ok (.iload_n 1, 1) := by decide +kernel
theorem k129_118 {d : Nat} {x : Int32} {l0 l2 : Option PV} {st : List PV} {M : Mem} {Q : Option PV → Mem → Prop} : WP d 129 118 [l0, some (vi x), l2] (st) M Q = WP d 129 119 [l0, some (vi x), l2] (vi x :: st) M Q := w1 mC_129 d129_118 rfl rfl
theorem d129_119 : decode cX11_reedOf 119 = .ok (.iload_n 2, 1) := by decide +kernel
theorem k129_119 {d : Nat} {x : Int32} {l0 l1 : Option PV} {st : List PV} {M : Mem} {Q : Option PV → Mem → Prop} : WP d 129 119 [l0, l1, some (vi x)] (st) M Q = WP d 129 120 [l0, l1, some (vi x)] (vi x :: st) M Q := w1 mC_129 d129_119 rfl rfl
theorem d129_120 : decode cX11_reedOf 120 = .ok (.aload_n 0, 1) := by decide +kernel
theorem k129_120 {d x : Nat} {l1 l2 : Option PV} {st : List PV} {M : Mem} {Q : Option PV → Mem → Prop} : WP d 129 120 [some (vr x), l1, l2] (st) M Q = WP d 129 121 [some (vr x), l1, l2] (vr x :: st) M Q := w1 mC_129 d129_120 rfl rfl
theorem d129_121 : decode cX11_reedOf 121 = .ok (.getfield 53, 3) := by decide +kernel
theorem k129_121 {d : Nat} {l0 l1 l2 : Option PV} {st : List PV} {M : Mem} {Q : Option PV → Mem → Prop} {r : Nat} (hk : mK M r = 11) : WP d 129 121 [l0, l1, l2] (vr r :: st) M Q = WP d 129 124 [l0, l1, l2] (vr (mR M r 15) :: st) M Q := w_getr mC_129 d129_121 fE_11_53 rfl (by rw [hk]; rfl)
theorem d129_124 : decode cX11_reedOf 124 = .ok (.invokespecial 346, 3) := by decide +kernel
theorem k129_124 {d : Nat} {l0 l1 l2 : Option PV} {st : List PV} {M : Mem} {Q : Option PV → Mem → Prop} {a0 a1 : Int32} {a2 : Nat} {r : Nat} (hl : szL st ≤ 8) (hk : mK M r < 13) : WP (d + 1) 129 124 [l0, l1, l2] (vr a2 :: vi a1 :: vi a0 :: vr r :: st) M Q = WP d 5 0 [some (vr r), some (vi a0), some (vi a1), some (vr a2)] [] M (fun v M' => WP (d + 1) 129 127 [l0, l1, l2] (psh v st) M' Q) := w_callI mC_129 d129_124 rfl rfl (Nat.le_of_ble_eq_true rfl) (by decide) rfl hl hk
theorem d129_127 : decode cX11_reedOf 127 = .ok (.areturn, 1) := by decide +kernel
theorem k129_127 {d : Nat} {l0 l1 l2 : Option PV} {M : Mem} {Q : Option PV → Mem → Prop} {r : Nat} (hr : 2 ≤ r) : WP d 129 127 [l0, l1, l2] ([vr r]) M Q = Q (some (vr r)) M := w_aret mC_129 d129_127 rfl hr
theorem d129_128 : decode cX11_reedOf 128 = .ok (.new 347, 3) := by decide +kernel
theorem k129_128 {d : Nat} {l0 l1 l2 : Option PV} {st : List PV} {M : Mem} {Q : Option PV → Mem → Prop} : WP d 129 128 [l0, l1, l2] (st) M Q = WP d 129 131 [l0, l1, l2] (vr (mX M) :: st) (nw M 10 0 3) Q := w_new mC_129 d129_128 (k := 10) rfl
theorem d129_131 : decode cX11_reedOf 131 = .ok (.dup, 1) := by decide +kernel
theorem k129_131 {d : Nat} {l0 l1 l2 : Option PV} {st : List PV} {M : Mem} {Q : Option PV → Mem → Prop} {x : Nat} : WP d 129 131 [l0, l1, l2] (vr x :: st) M Q = WP d 129 132 [l0, l1, l2] (vr x :: vr x :: st) M Q := w1 mC_129 d129_131 rfl rfl
theorem k129_131i {d : Nat} {l0 l1 l2 : Option PV} {st : List PV} {M : Mem} {Q : Option PV → Mem → Prop} {x : Int32} : WP d 129 131 [l0, l1, l2] (vi x :: st) M Q = WP d 129 132 [l0, l1, l2] (vi x :: vi x :: st) M Q := w1 mC_129 d129_131 rfl rfl
theorem d129_132 : decode cX11_reedOf 132 = .ok (.iload_n 1, 1) := by decide +kernel
theorem k129_132 {d : Nat} {x : Int32} {l0 l2 : Option PV} {st : List PV} {M : Mem} {Q : Option PV → Mem → Prop} : WP d 129 132 [l0, some (vi x), l2] (st) M Q = WP d 129 133 [l0, some (vi x), l2] (vi x :: st) M Q := w1 mC_129 d129_132 rfl rfl
theorem d129_133 : decode cX11_reedOf 133 = .ok (.iload_n 2, 1) := by decide +kernel
theorem k129_133 {d : Nat} {x : Int32} {l0 l1 : Option PV} {st : List PV} {M : Mem} {Q : Option PV → Mem → Prop} : WP d 129 133 [l0, l1, some (vi x)] (st) M Q = WP d 129 134 [l0, l1, some (vi x)] (vi x :: st) M Q := w1 mC_129 d129_133 rfl rfl
theorem d129_134 : decode cX11_reedOf 134 = .ok (.aload_n 0, 1) := by decide +kernel
theorem k129_134 {d x : Nat} {l1 l2 : Option PV} {st : List PV} {M : Mem} {Q : Option PV → Mem → Prop} : WP d 129 134 [some (vr x), l1, l2] (st) M Q = WP d 129 135 [some (vr x), l1, l2] (vr x :: st) M Q := w1 mC_129 d129_134 rfl rfl
theorem d129_135 : decode cX11_reedOf 135 = .ok (.getfield 53, 3) := by decide +kernel
theorem k129_135 {d : Nat} {l0 l1 l2 : Option PV} {st : List PV} {M : Mem} {Q : Option PV → Mem → Prop} {r : Nat} (hk : mK M r = 11) : WP d 129 135 [l0, l1, l2] (vr r :: st) M Q = WP d 129 138 [l0, l1, l2] (vr (mR M r 15) :: st) M Q := w_getr mC_129 d129_135 fE_11_53 rfl (by rw [hk]; rfl)
theorem d129_138 : decode cX11_reedOf 138 = .ok (.invokespecial 349, 3) := by decide +kernel
theorem k129_138 {d : Nat} {l0 l1 l2 : Option PV} {st : List PV} {M : Mem} {Q : Option PV → Mem → Prop} {a0 a1 : Int32} {a2 : Nat} {r : Nat} (hl : szL st ≤ 8) (hk : mK M r < 13) : WP (d + 1) 129 138 [l0, l1, l2] (vr a2 :: vi a1 :: vi a0 :: vr r :: st) M Q = WP d 67 0 [some (vr r), some (vi a0), some (vi a1), some (vr a2)] [] M (fun v M' => WP (d + 1) 129 141 [l0, l1, l2] (psh v st) M' Q) := w_callI mC_129 d129_138 rfl rfl (Nat.le_of_ble_eq_true rfl) (by decide) rfl hl hk
theorem d129_141 : decode cX11_reedOf 141 = .ok (.areturn, 1) := by decide +kernel
theorem k129_141 {d : Nat} {l0 l1 l2 : Option PV} {M : Mem} {Q : Option PV → Mem → Prop} {r : Nat} (hr : 2 ≤ r) : WP d 129 141 [l0, l1, l2] ([vr r]) M Q = Q (some (vr r)) M := w_aret mC_129 d129_141 rfl hr
theorem d129_142 : decode cX11_reedOf 142 = .ok (.new 47, 3) := by decide +kernel
theorem k129_142 {d : Nat} {l0 l1 l2 : Option PV} {st : List PV} {M : Mem} {Q : Option PV → Mem → Prop} : WP d 129 142 [l0, l1, l2] (st) M Q = WP d 129 145 [l0, l1, l2] (vr (mX M) :: st) (nw M 8 0 3) Q := w_new mC_129 d129_142 (k := 8) rfl
theorem d129_145 : decode cX11_reedOf 145 = .ok (.dup, 1) := by decide +kernel
theorem k129_145 {d : Nat} {l0 l1 l2 : Option PV} {st : List PV} {M : Mem} {Q : Option PV → Mem → Prop} {x : Nat} : WP d 129 145 [l0, l1, l2] (vr x :: st) M Q = WP d 129 146 [l0, l1, l2] (vr x :: vr x :: st) M Q := w1 mC_129 d129_145 rfl rfl
theorem k129_145i {d : Nat} {l0 l1 l2 : Option PV} {st : List PV} {M : Mem} {Q : Option PV → Mem → Prop} {x : Int32} : WP d 129 145 [l0, l1, l2] (vi x :: st) M Q = WP d 129 146 [l0, l1, l2] (vi x :: vi x :: st) M Q := w1 mC_129 d129_145 rfl rfl
theorem d129_146 : decode cX11_reedOf 146 = .ok (.iload_n 1, 1) := by decide +kernel
theorem k129_146 {d : Nat} {x : Int32} {l0 l2 : Option PV} {st : List PV} {M : Mem} {Q : Option PV → Mem → Prop} : WP d 129 146 [l0, some (vi x), l2] (st) M Q = WP d 129 147 [l0, some (vi x), l2] (vi x :: st) M Q := w1 mC_129 d129_146 rfl rfl
theorem d129_147 : decode cX11_reedOf 147 = .ok (.iload_n 2, 1) := by decide +kernel
theorem k129_147 {d : Nat} {x : Int32} {l0 l1 : Option PV} {st : List PV} {M : Mem} {Q : Option PV → Mem → Prop} : WP d 129 147 [l0, l1, some (vi x)] (st) M Q = WP d 129 148 [l0, l1, some (vi x)] (vi x :: st) M Q := w1 mC_129 d129_147 rfl rfl
theorem d129_148 : decode cX11_reedOf 148 = .ok (.aload_n 0, 1) := by decide +kernel
theorem k129_148 {d x : Nat} {l1 l2 : Option PV} {st : List PV} {M : Mem} {Q : Option PV → Mem → Prop} : WP d 129 148 [some (vr x), l1, l2] (st) M Q = WP d 129 149 [some (vr x), l1, l2] (vr x :: st) M Q := w1 mC_129 d129_148 rfl rfl
theorem d129_149 : decode cX11_reedOf 149 = .ok (.getfield 53, 3) := by decide +kernel
theorem k129_149 {d : Nat} {l0 l1 l2 : Option PV} {st : List PV} {M : Mem} {Q : Option PV → Mem → Prop} {r : Nat} (hk : mK M r = 11) : WP d 129 149 [l0, l1, l2] (vr r :: st) M Q = WP d 129 152 [l0, l1, l2] (vr (mR M r 15) :: st) M Q := w_getr mC_129 d129_149 fE_11_53 rfl (by rw [hk]; rfl)
theorem d129_152 : decode cX11_reedOf 152 = .ok (.invokespecial 350, 3) := by decide +kernel
theorem k129_152 {d : Nat} {l0 l1 l2 : Option PV} {st : List PV} {M : Mem} {Q : Option PV → Mem → Prop} {a0 a1 : Int32} {a2 : Nat} {r : Nat} (hl : szL st ≤ 8) (hk : mK M r < 13) : WP (d + 1) 129 152 [l0, l1, l2] (vr a2 :: vi a1 :: vi a0 :: vr r :: st) M Q = WP d 52 0 [some (vr r), some (vi a0), some (vi a1), some (vr a2)] [] M (fun v M' => WP (d + 1) 129 155 [l0, l1, l2] (psh v st) M' Q) := w_callI mC_129 d129_152 rfl rfl (Nat.le_of_ble_eq_true rfl) (by decide) rfl hl hk
theorem d129_155 : decode cX11_reedOf 155 = .ok (.areturn, 1) := by decide +kernel
theorem k129_155 {d : Nat} {l0 l1 l2 : Option PV} {M : Mem} {Q : Option PV → Mem → Prop} {r : Nat} (hr : 2 ≤ r) : WP d 129 155 [l0, l1, l2] ([vr r]) M Q = Q (some (vr r)) M := w_aret mC_129 d129_155 rfl hr
theorem d130_0 : decode cX11_act 0 = .ok (.aload_n 0, 1) := by decide +kernel
theorem k130_0 {d x : Nat} {l1 l2 l3 l4 : Option PV} {st : List PV} {M : Mem} {Q : Option PV → Mem → Prop} : WP d 130 0 [some (vr x), l1, l2, l3, l4] (st) M Q = WP d 130 1 [some (vr x), l1, l2, l3, l4] (vr x :: st) M Q := w1 mC_130 d130_0 rfl rfl
theorem d130_1 : decode cX11_act 1 = .ok (.getfield 53, 3) := by decide +kernel
theorem k130_1 {d : Nat} {l0 l1 l2 l3 l4 : Option PV} {st : List PV} {M : Mem} {Q : Option PV → Mem → Prop} {r : Nat} (hk : mK M r = 11) : WP d 130 1 [l0, l1, l2, l3, l4] (vr r :: st) M Q = WP d 130 4 [l0, l1, l2, l3, l4] (vr (mR M r 15) :: st) M Q := w_getr mC_130 d130_1 fE_11_53 rfl (by rw [hk]; rfl)
theorem d130_4 : decode cX11_act 4 = .ok (.iconst 0, 1) := by decide +kernel
theorem k130_4 {d : Nat} {l0 l1 l2 l3 l4 : Option PV} {st : List PV} {M : Mem} {Q : Option PV → Mem → Prop} : WP d 130 4 [l0, l1, l2, l3, l4] (st) M Q = WP d 130 5 [l0, l1, l2, l3, l4] (vi 0 :: st) M Q := w_iconst mC_130 d130_4 (by decide)
theorem d130_5 : decode cX11_act 5 = .ok (.iconst 0, 1) := by decide +kernel
theorem k130_5 {d : Nat} {l0 l1 l2 l3 l4 : Option PV} {st : List PV} {M : Mem} {Q : Option PV → Mem → Prop} : WP d 130 5 [l0, l1, l2, l3, l4] (st) M Q = WP d 130 6 [l0, l1, l2, l3, l4] (vi 0 :: st) M Q := w_iconst mC_130 d130_5 (by decide)
theorem d130_6 : decode cX11_act 6 = .ok (.iastore, 1) := by decide +kernel
theorem k130_6 {d : Nat} {l0 l1 l2 l3 l4 : Option PV} {st : List PV} {M : Mem} {Q : Option PV → Mem → Prop} {r : Nat} {j x : Int32} (hk : mK M r = 13) (hj : inb j (mN M r)) (h1 : r ≠ 1) : WP d 130 6 [l0, l1, l2, l3, l4] (vi x :: vi j :: vr r :: st) M Q = WP d 130 7 [l0, l1, l2, l3, l4] (st) (sI M r (ix j) x) Q := w_iast mC_130 d130_6 hk hj h1
theorem d130_7 : decode cX11_act 7 = .ok (.iload_n 1, 1) := by decide +kernel
theorem k130_7 {d : Nat} {x : Int32} {l0 l2 l3 l4 : Option PV} {st : List PV} {M : Mem} {Q : Option PV → Mem → Prop} : WP d 130 7 [l0, some (vi x), l2, l3, l4] (st) M Q = WP d 130 8 [l0, some (vi x), l2, l3, l4] (vi x :: st) M Q := w1 mC_130 d130_7 rfl rfl
theorem d130_8 : decode cX11_act 8 = .ok (.iconst 0, 1) := by decide +kernel
theorem k130_8 {d : Nat} {l0 l1 l2 l3 l4 : Option PV} {st : List PV} {M : Mem} {Q : Option PV → Mem → Prop} : WP d 130 8 [l0, l1, l2, l3, l4] (st) M Q = WP d 130 9 [l0, l1, l2, l3, l4] (vi 0 :: st) M Q := w_iconst mC_130 d130_8 (by decide)
theorem d130_9 : decode cX11_act 9 = .ok (.aload_n 0, 1) := by decide +kernel
theorem k130_9 {d x : Nat} {l1 l2 l3 l4 : Option PV} {st : List PV} {M : Mem} {Q : Option PV → Mem → Prop} : WP d 130 9 [some (vr x), l1, l2, l3, l4] (st) M Q = WP d 130 10 [some (vr x), l1, l2, l3, l4] (vr x :: st) M Q := w1 mC_130 d130_9 rfl rfl
theorem d130_10 : decode cX11_act 10 = .ok (.getfield 320, 3) := by decide +kernel
theorem k130_10 {d : Nat} {l0 l1 l2 l3 l4 : Option PV} {st : List PV} {M : Mem} {Q : Option PV → Mem → Prop} {r : Nat} (hk : mK M r = 11) : WP d 130 10 [l0, l1, l2, l3, l4] (vr r :: st) M Q = WP d 130 13 [l0, l1, l2, l3, l4] (vi (mI M r 14) :: st) M Q := w_get mC_130 d130_10 fE_11_320 rfl (by rw [hk]; rfl)
theorem d130_13 : decode cX11_act 13 = .ok (.iconst 1, 1) := by decide +kernel
theorem k130_13 {d : Nat} {l0 l1 l2 l3 l4 : Option PV} {st : List PV} {M : Mem} {Q : Option PV → Mem → Prop} : WP d 130 13 [l0, l1, l2, l3, l4] (st) M Q = WP d 130 14 [l0, l1, l2, l3, l4] (vi 1 :: st) M Q := w_iconst mC_130 d130_13 (by decide)
theorem d130_14 : decode cX11_act 14 = .ok (.isub, 1) := by decide +kernel
theorem k130_14 {d : Nat} {l0 l1 l2 l3 l4 : Option PV} {st : List PV} {M : Mem} {Q : Option PV → Mem → Prop} {x y : Int32} : WP d 130 14 [l0, l1, l2, l3, l4] (vi y :: vi x :: st) M Q = WP d 130 15 [l0, l1, l2, l3, l4] (vi (x - y) :: st) M Q := w1 mC_130 d130_14 rfl rfl
theorem d130_15 : decode cX11_act 15 = .ok (.invokestatic 79, 3) := by decide +kernel
theorem k130_15 {d : Nat} {l0 l1 l2 l3 l4 : Option PV} {st : List PV} {M : Mem} {Q : Option PV → Mem → Prop} {a0 a1 a2 : Int32} (hl : szL st ≤ 8) : WP (d + 1) 130 15 [l0, l1, l2, l3, l4] (vi a2 :: vi a1 :: vi a0 :: st) M Q = WP d 141 0 [some (vi a0), some (vi a1), some (vi a2)] [] M (fun v M' => WP (d + 1) 130 18 [l0, l1, l2, l3, l4] (psh v st) M' Q) := w_callS mC_130 d130_15 rfl rfl (Nat.le_of_ble_eq_true rfl) (by decide) rfl hl
theorem d130_18 : decode cX11_act 18 = .ok (.ifCond .eq 12, 3) := by decide +kernel
theorem k130_18 {d : Nat} {l0 l1 l2 l3 l4 : Option PV} {st : List PV} {M : Mem} {Q : Option PV → Mem → Prop} {x : Int32} : WP d 130 18 [l0, l1, l2, l3, l4] (vi x :: st) M Q = (if x = 0 then WP d 130 30 [l0, l1, l2, l3, l4] (st) M Q else WP d 130 21 [l0, l1, l2, l3, l4] (st) M Q) := w_if_eq mC_130 d130_18 (by decide)
theorem d130_21 : decode cX11_act 21 = .ok (.aload_n 0, 1) := by decide +kernel
theorem k130_21 {d x : Nat} {l1 l2 l3 l4 : Option PV} {st : List PV} {M : Mem} {Q : Option PV → Mem → Prop} : WP d 130 21 [some (vr x), l1, l2, l3, l4] (st) M Q = WP d 130 22 [some (vr x), l1, l2, l3, l4] (vr x :: st) M Q := w1 mC_130 d130_21 rfl rfl
theorem d130_22 : decode cX11_act 22 = .ok (.getfield 49, 3) := by decide +kernel
theorem k130_22 {d : Nat} {l0 l1 l2 l3 l4 : Option PV} {st : List PV} {M : Mem} {Q : Option PV → Mem → Prop} {r : Nat} (hk : mK M r = 11) : WP d 130 22 [l0, l1, l2, l3, l4] (vr r :: st) M Q = WP d 130 25 [l0, l1, l2, l3, l4] (vr (mR M r 13) :: st) M Q := w_getr mC_130 d130_22 fE_11_49 rfl (by rw [hk]; rfl)
theorem d130_25 : decode cX11_act 25 = .ok (.iload_n 1, 1) := by decide +kernel
theorem k130_25 {d : Nat} {x : Int32} {l0 l2 l3 l4 : Option PV} {st : List PV} {M : Mem} {Q : Option PV → Mem → Prop} : WP d 130 25 [l0, some (vi x), l2, l3, l4] (st) M Q = WP d 130 26 [l0, some (vi x), l2, l3, l4] (vi x :: st) M Q := w1 mC_130 d130_25 rfl rfl
theorem d130_26 : decode cX11_act 26 = .ok (.aaload, 1) := by decide +kernel
theorem k130_26 {d : Nat} {l0 l1 l2 l3 l4 : Option PV} {st : List PV} {M : Mem} {Q : Option PV → Mem → Prop} {r : Nat} {j : Int32} (hk : mK M r = 15 ∨ mK M r = 16 ∨ mK M r = 17) (hj : inb j (mN M r)) (h1 : r ≠ 1) : WP d 130 26 [l0, l1, l2, l3, l4] (vi j :: vr r :: st) M Q = WP d 130 27 [l0, l1, l2, l3, l4] (vr (mR M r (ix j)) :: st) M Q := w_aald mC_130 d130_26 hk hj h1
theorem d130_27 : decode cX11_act 27 = .ok (.goto 4, 3) := by decide +kernel
theorem k130_27 {d : Nat} {l0 l1 l2 l3 l4 : Option PV} {st : List PV} {M : Mem} {Q : Option PV → Mem → Prop} : WP d 130 27 [l0, l1, l2, l3, l4] (st) M Q = WP d 130 31 [l0, l1, l2, l3, l4] (st) M Q := w_goto mC_130 d130_27 (by decide)
theorem d130_30 : decode cX11_act 30 = .ok (.aconst_null, 1) := by decide +kernel
theorem k130_30 {d : Nat} {l0 l1 l2 l3 l4 : Option PV} {st : List PV} {M : Mem} {Q : Option PV → Mem → Prop} : WP d 130 30 [l0, l1, l2, l3, l4] (st) M Q = WP d 130 31 [l0, l1, l2, l3, l4] (vr 0 :: st) M Q := w1 mC_130 d130_30 rfl rfl
theorem d130_31 : decode cX11_act 31 = .ok (.astore 4, 2) := by decide +kernel
theorem k130_31 {d : Nat} {l0 l1 l2 l3 l4 : Option PV} {st : List PV} {M : Mem} {Q : Option PV → Mem → Prop} {x : Nat} : WP d 130 31 [l0, l1, l2, l3, l4] (vr x :: st) M Q = WP d 130 33 [l0, l1, l2, l3, some (vr x)] (st) M Q := w1 mC_130 d130_31 rfl rfl
theorem d130_33 : decode cX11_act 33 = .ok (.aload 4, 2) := by decide +kernel
theorem k130_33 {d x : Nat} {l0 l1 l2 l3 : Option PV} {st : List PV} {M : Mem} {Q : Option PV → Mem → Prop} : WP d 130 33 [l0, l1, l2, l3, some (vr x)] (st) M Q = WP d 130 35 [l0, l1, l2, l3, some (vr x)] (vr x :: st) M Q := w1 mC_130 d130_33 rfl rfl
theorem d130_35 : decode cX11_act 35 = .ok (.ifnonnull 5, 3) := by decide +kernel
theorem k130_35 {d : Nat} {l0 l1 l2 l3 l4 : Option PV} {st : List PV} {M : Mem} {Q : Option PV → Mem → Prop} {r : Nat} : WP d 130 35 [l0, l1, l2, l3, l4] (vr r :: st) M Q = (if r = 0 then WP d 130 38 [l0, l1, l2, l3, l4] (st) M Q else WP d 130 40 [l0, l1, l2, l3, l4] (st) M Q) := w_nonnull mC_130 d130_35 (by decide)
theorem d130_38 : decode cX11_act 38 = .ok (.iconst 0, 1) := by decide +kernel
theorem k130_38 {d : Nat} {l0 l1 l2 l3 l4 : Option PV} {st : List PV} {M : Mem} {Q : Option PV → Mem → Prop} : WP d 130 38 [l0, l1, l2, l3, l4] (st) M Q = WP d 130 39 [l0, l1, l2, l3, l4] (vi 0 :: st) M Q := w_iconst mC_130 d130_38 (by decide)
theorem d130_39 : decode cX11_act 39 = .ok (.ireturn, 1) := by decide +kernel
theorem k130_39 {d : Nat} {l0 l1 l2 l3 l4 : Option PV} {M : Mem} {Q : Option PV → Mem → Prop} {x : Int32} : WP d 130 39 [l0, l1, l2, l3, l4] ([vi x]) M Q = Q (some (vi x)) M := w_iret mC_130 d130_39 rfl
theorem d130_40 : decode cX11_act 40 = .ok (.iload_n 2, 1) := by decide +kernel
theorem k130_40 {d : Nat} {x : Int32} {l0 l1 l3 l4 : Option PV} {st : List PV} {M : Mem} {Q : Option PV → Mem → Prop} : WP d 130 40 [l0, l1, some (vi x), l3, l4] (st) M Q = WP d 130 41 [l0, l1, some (vi x), l3, l4] (vi x :: st) M Q := w1 mC_130 d130_40 rfl rfl
theorem d130_41 : decode cX11_act 41 = .ok (.tableswitch 59 0 3 #[31, 38, 45, 52], 31) := by decide +kernel
theorem k130_41c0 {d : Nat} {l0 l1 l2 l3 l4 : Option PV} {st : List PV} {M : Mem} {Q : Option PV → Mem → Prop} : WP d 130 41 [l0, l1, l2, l3, l4] (vi 0 :: st) M Q = WP d 130 72 [l0, l1, l2, l3, l4] (st) M Q := w_sw mC_130 d130_41 (by decide +kernel)
theorem k130_41c1 {d : Nat} {l0 l1 l2 l3 l4 : Option PV} {st : List PV} {M : Mem} {Q : Option PV → Mem → Prop} : WP d 130 41 [l0, l1, l2, l3, l4] (vi 1 :: st) M Q = WP d 130 79 [l0, l1, l2, l3, l4] (st) M Q := w_sw mC_130 d130_41 (by decide +kernel)
theorem k130_41c2 {d : Nat} {l0 l1 l2 l3 l4 : Option PV} {st : List PV} {M : Mem} {Q : Option PV → Mem → Prop} : WP d 130 41 [l0, l1, l2, l3, l4] (vi 2 :: st) M Q = WP d 130 86 [l0, l1, l2, l3, l4] (st) M Q := w_sw mC_130 d130_41 (by decide +kernel)
theorem k130_41c3 {d : Nat} {l0 l1 l2 l3 l4 : Option PV} {st : List PV} {M : Mem} {Q : Option PV → Mem → Prop} : WP d 130 41 [l0, l1, l2, l3, l4] (vi 3 :: st) M Q = WP d 130 93 [l0, l1, l2, l3, l4] (st) M Q := w_sw mC_130 d130_41 (by decide +kernel)
theorem k130_41 {d : Nat} {l0 l1 l2 l3 l4 : Option PV} {st : List PV} {M : Mem} {Q : Option PV → Mem → Prop} {x : Int32} (h : x.toInt < 0 ∨ 3 < x.toInt) : WP d 130 41 [l0, l1, l2, l3, l4] (vi x :: st) M Q = WP d 130 100 [l0, l1, l2, l3, l4] (st) M Q := w_swd mC_130 d130_41 (by decide) h
theorem d130_72 : decode cX11_act 72 = .ok (.aload 4, 2) := by decide +kernel
theorem k130_72 {d x : Nat} {l0 l1 l2 l3 : Option PV} {st : List PV} {M : Mem} {Q : Option PV → Mem → Prop} : WP d 130 72 [l0, l1, l2, l3, some (vr x)] (st) M Q = WP d 130 74 [l0, l1, l2, l3, some (vr x)] (vr x :: st) M Q := w1 mC_130 d130_72 rfl rfl
theorem d130_74 : decode cX11_act 74 = .ok (.iload_n 3, 1) := by decide +kernel
theorem k130_74 {d : Nat} {x : Int32} {l0 l1 l2 l4 : Option PV} {st : List PV} {M : Mem} {Q : Option PV → Mem → Prop} : WP d 130 74 [l0, l1, l2, some (vi x), l4] (st) M Q = WP d 130 75 [l0, l1, l2, some (vi x), l4] (vi x :: st) M Q := w1 mC_130 d130_74 rfl rfl
theorem d130_75 : decode cX11_act 75 = .ok (.invokevirtual 351, 3) := by decide +kernel
theorem k130_75v0 {d : Nat} {l0 l1 l2 l3 l4 : Option PV} {st : List PV} {M : Mem} {Q : Option PV → Mem → Prop} {a0 : Int32} {r : Nat} (hl : szL st ≤ 8) (hk : mK M r = 0) : WP (d + 1) 130 75 [l0, l1, l2, l3, l4] (vi a0 :: vr r :: st) M Q = WP d 54 0 [some (vr r), some (vi a0)] [] M (fun v M' => WP (d + 1) 130 78 [l0, l1, l2, l3, l4] (psh v st) M' Q) := w_callV mC_130 d130_75 (ci := 0) rfl rfl rfl (Nat.le_of_ble_eq_true rfl) (by decide) rfl hl hk
theorem k130_75v1 {d : Nat} {l0 l1 l2 l3 l4 : Option PV} {st : List PV} {M : Mem} {Q : Option PV → Mem → Prop} {a0 : Int32} {r : Nat} (hl : szL st ≤ 8) (hk : mK M r = 1) : WP (d + 1) 130 75 [l0, l1, l2, l3, l4] (vi a0 :: vr r :: st) M Q = WP d 54 0 [some (vr r), some (vi a0)] [] M (fun v M' => WP (d + 1) 130 78 [l0, l1, l2, l3, l4] (psh v st) M' Q) := w_callV mC_130 d130_75 (ci := 1) rfl rfl rfl (Nat.le_of_ble_eq_true rfl) (by decide) rfl hl hk
theorem k130_75v2 {d : Nat} {l0 l1 l2 l3 l4 : Option PV} {st : List PV} {M : Mem} {Q : Option PV → Mem → Prop} {a0 : Int32} {r : Nat} (hl : szL st ≤ 8) (hk : mK M r = 2) : WP (d + 1) 130 75 [l0, l1, l2, l3, l4] (vi a0 :: vr r :: st) M Q = WP d 6 0 [some (vr r), some (vi a0)] [] M (fun v M' => WP (d + 1) 130 78 [l0, l1, l2, l3, l4] (psh v st) M' Q) := w_callV mC_130 d130_75 (ci := 2) rfl rfl rfl (Nat.le_of_ble_eq_true rfl) (by decide) rfl hl hk
theorem k130_75v5 {d : Nat} {l0 l1 l2 l3 l4 : Option PV} {st : List PV} {M : Mem} {Q : Option PV → Mem → Prop} {a0 : Int32} {r : Nat} (hl : szL st ≤ 8) (hk : mK M r = 5) : WP (d + 1) 130 75 [l0, l1, l2, l3, l4] (vi a0 :: vr r :: st) M Q = WP d 54 0 [some (vr r), some (vi a0)] [] M (fun v M' => WP (d + 1) 130 78 [l0, l1, l2, l3, l4] (psh v st) M' Q) := w_callV mC_130 d130_75 (ci := 5) rfl rfl rfl (Nat.le_of_ble_eq_true rfl) (by decide) rfl hl hk
theorem k130_75v6 {d : Nat} {l0 l1 l2 l3 l4 : Option PV} {st : List PV} {M : Mem} {Q : Option PV → Mem → Prop} {a0 : Int32} {r : Nat} (hl : szL st ≤ 8) (hk : mK M r = 6) : WP (d + 1) 130 75 [l0, l1, l2, l3, l4] (vi a0 :: vr r :: st) M Q = WP d 49 0 [some (vr r), some (vi a0)] [] M (fun v M' => WP (d + 1) 130 78 [l0, l1, l2, l3, l4] (psh v st) M' Q) := w_callV mC_130 d130_75 (ci := 6) rfl rfl rfl (Nat.le_of_ble_eq_true rfl) (by decide) rfl hl hk
theorem k130_75v7 {d : Nat} {l0 l1 l2 l3 l4 : Option PV} {st : List PV} {M : Mem} {Q : Option PV → Mem → Prop} {a0 : Int32} {r : Nat} (hl : szL st ≤ 8) (hk : mK M r = 7) : WP (d + 1) 130 75 [l0, l1, l2, l3, l4] (vi a0 :: vr r :: st) M Q = WP d 49 0 [some (vr r), some (vi a0)] [] M (fun v M' => WP (d + 1) 130 78 [l0, l1, l2, l3, l4] (psh v st) M' Q) := w_callV mC_130 d130_75 (ci := 7) rfl rfl rfl (Nat.le_of_ble_eq_true rfl) (by decide) rfl hl hk
theorem k130_75v8 {d : Nat} {l0 l1 l2 l3 l4 : Option PV} {st : List PV} {M : Mem} {Q : Option PV → Mem → Prop} {a0 : Int32} {r : Nat} (hl : szL st ≤ 8) (hk : mK M r = 8) : WP (d + 1) 130 75 [l0, l1, l2, l3, l4] (vi a0 :: vr r :: st) M Q = WP d 54 0 [some (vr r), some (vi a0)] [] M (fun v M' => WP (d + 1) 130 78 [l0, l1, l2, l3, l4] (psh v st) M' Q) := w_callV mC_130 d130_75 (ci := 8) rfl rfl rfl (Nat.le_of_ble_eq_true rfl) (by decide) rfl hl hk
theorem k130_75v10 {d : Nat} {l0 l1 l2 l3 l4 : Option PV} {st : List PV} {M : Mem} {Q : Option PV → Mem → Prop} {a0 : Int32} {r : Nat} (hl : szL st ≤ 8) (hk : mK M r = 10) : WP (d + 1) 130 75 [l0, l1, l2, l3, l4] (vi a0 :: vr r :: st) M Q = WP d 49 0 [some (vr r), some (vi a0)] [] M (fun v M' => WP (d + 1) 130 78 [l0, l1, l2, l3, l4] (psh v st) M' Q) := w_callV mC_130 d130_75 (ci := 10) rfl rfl rfl (Nat.le_of_ble_eq_true rfl) (by decide) rfl hl hk
theorem d130_78 : decode cX11_act 78 = .ok (.ireturn, 1) := by decide +kernel
theorem k130_78 {d : Nat} {l0 l1 l2 l3 l4 : Option PV} {M : Mem} {Q : Option PV → Mem → Prop} {x : Int32} : WP d 130 78 [l0, l1, l2, l3, l4] ([vi x]) M Q = Q (some (vi x)) M := w_iret mC_130 d130_78 rfl
theorem d130_79 : decode cX11_act 79 = .ok (.aload 4, 2) := by decide +kernel
theorem k130_79 {d x : Nat} {l0 l1 l2 l3 : Option PV} {st : List PV} {M : Mem} {Q : Option PV → Mem → Prop} : WP d 130 79 [l0, l1, l2, l3, some (vr x)] (st) M Q = WP d 130 81 [l0, l1, l2, l3, some (vr x)] (vr x :: st) M Q := w1 mC_130 d130_79 rfl rfl
theorem d130_81 : decode cX11_act 81 = .ok (.iload_n 3, 1) := by decide +kernel
theorem k130_81 {d : Nat} {x : Int32} {l0 l1 l2 l4 : Option PV} {st : List PV} {M : Mem} {Q : Option PV → Mem → Prop} : WP d 130 81 [l0, l1, l2, some (vi x), l4] (st) M Q = WP d 130 82 [l0, l1, l2, some (vi x), l4] (vi x :: st) M Q := w1 mC_130 d130_81 rfl rfl
theorem d130_82 : decode cX11_act 82 = .ok (.invokevirtual 354, 3) := by decide +kernel
theorem k130_82v0 {d : Nat} {l0 l1 l2 l3 l4 : Option PV} {st : List PV} {M : Mem} {Q : Option PV → Mem → Prop} {a0 : Int32} {r : Nat} (hl : szL st ≤ 8) (hk : mK M r = 0) : WP (d + 1) 130 82 [l0, l1, l2, l3, l4] (vi a0 :: vr r :: st) M Q = WP d 47 0 [some (vr r), some (vi a0)] [] M (fun v M' => WP (d + 1) 130 85 [l0, l1, l2, l3, l4] (psh v st) M' Q) := w_callV mC_130 d130_82 (ci := 0) rfl rfl rfl (Nat.le_of_ble_eq_true rfl) (by decide) rfl hl hk
theorem k130_82v1 {d : Nat} {l0 l1 l2 l3 l4 : Option PV} {st : List PV} {M : Mem} {Q : Option PV → Mem → Prop} {a0 : Int32} {r : Nat} (hl : szL st ≤ 8) (hk : mK M r = 1) : WP (d + 1) 130 82 [l0, l1, l2, l3, l4] (vi a0 :: vr r :: st) M Q = WP d 4 0 [some (vr r), some (vi a0)] [] M (fun v M' => WP (d + 1) 130 85 [l0, l1, l2, l3, l4] (psh v st) M' Q) := w_callV mC_130 d130_82 (ci := 1) rfl rfl rfl (Nat.le_of_ble_eq_true rfl) (by decide) rfl hl hk
theorem k130_82v2 {d : Nat} {l0 l1 l2 l3 l4 : Option PV} {st : List PV} {M : Mem} {Q : Option PV → Mem → Prop} {a0 : Int32} {r : Nat} (hl : szL st ≤ 8) (hk : mK M r = 2) : WP (d + 1) 130 82 [l0, l1, l2, l3, l4] (vi a0 :: vr r :: st) M Q = WP d 55 0 [some (vr r), some (vi a0)] [] M (fun v M' => WP (d + 1) 130 85 [l0, l1, l2, l3, l4] (psh v st) M' Q) := w_callV mC_130 d130_82 (ci := 2) rfl rfl rfl (Nat.le_of_ble_eq_true rfl) (by decide) rfl hl hk
theorem k130_82v5 {d : Nat} {l0 l1 l2 l3 l4 : Option PV} {st : List PV} {M : Mem} {Q : Option PV → Mem → Prop} {a0 : Int32} {r : Nat} (hl : szL st ≤ 8) (hk : mK M r = 5) : WP (d + 1) 130 82 [l0, l1, l2, l3, l4] (vi a0 :: vr r :: st) M Q = WP d 47 0 [some (vr r), some (vi a0)] [] M (fun v M' => WP (d + 1) 130 85 [l0, l1, l2, l3, l4] (psh v st) M' Q) := w_callV mC_130 d130_82 (ci := 5) rfl rfl rfl (Nat.le_of_ble_eq_true rfl) (by decide) rfl hl hk
theorem k130_82v6 {d : Nat} {l0 l1 l2 l3 l4 : Option PV} {st : List PV} {M : Mem} {Q : Option PV → Mem → Prop} {a0 : Int32} {r : Nat} (hl : szL st ≤ 8) (hk : mK M r = 6) : WP (d + 1) 130 82 [l0, l1, l2, l3, l4] (vi a0 :: vr r :: st) M Q = WP d 55 0 [some (vr r), some (vi a0)] [] M (fun v M' => WP (d + 1) 130 85 [l0, l1, l2, l3, l4] (psh v st) M' Q) := w_callV mC_130 d130_82 (ci := 6) rfl rfl rfl (Nat.le_of_ble_eq_true rfl) (by decide) rfl hl hk
theorem k130_82v7 {d : Nat} {l0 l1 l2 l3 l4 : Option PV} {st : List PV} {M : Mem} {Q : Option PV → Mem → Prop} {a0 : Int32} {r : Nat} (hl : szL st ≤ 8) (hk : mK M r = 7) : WP (d + 1) 130 82 [l0, l1, l2, l3, l4] (vi a0 :: vr r :: st) M Q = WP d 55 0 [some (vr r), some (vi a0)] [] M (fun v M' => WP (d + 1) 130 85 [l0, l1, l2, l3, l4] (psh v st) M' Q) := w_callV mC_130 d130_82 (ci := 7) rfl rfl rfl (Nat.le_of_ble_eq_true rfl) (by decide) rfl hl hk
theorem k130_82v8 {d : Nat} {l0 l1 l2 l3 l4 : Option PV} {st : List PV} {M : Mem} {Q : Option PV → Mem → Prop} {a0 : Int32} {r : Nat} (hl : szL st ≤ 8) (hk : mK M r = 8) : WP (d + 1) 130 82 [l0, l1, l2, l3, l4] (vi a0 :: vr r :: st) M Q = WP d 55 0 [some (vr r), some (vi a0)] [] M (fun v M' => WP (d + 1) 130 85 [l0, l1, l2, l3, l4] (psh v st) M' Q) := w_callV mC_130 d130_82 (ci := 8) rfl rfl rfl (Nat.le_of_ble_eq_true rfl) (by decide) rfl hl hk
theorem k130_82v10 {d : Nat} {l0 l1 l2 l3 l4 : Option PV} {st : List PV} {M : Mem} {Q : Option PV → Mem → Prop} {a0 : Int32} {r : Nat} (hl : szL st ≤ 8) (hk : mK M r = 10) : WP (d + 1) 130 82 [l0, l1, l2, l3, l4] (vi a0 :: vr r :: st) M Q = WP d 68 0 [some (vr r), some (vi a0)] [] M (fun v M' => WP (d + 1) 130 85 [l0, l1, l2, l3, l4] (psh v st) M' Q) := w_callV mC_130 d130_82 (ci := 10) rfl rfl rfl (Nat.le_of_ble_eq_true rfl) (by decide) rfl hl hk
theorem d130_85 : decode cX11_act 85 = .ok (.ireturn, 1) := by decide +kernel
theorem k130_85 {d : Nat} {l0 l1 l2 l3 l4 : Option PV} {M : Mem} {Q : Option PV → Mem → Prop} {x : Int32} : WP d 130 85 [l0, l1, l2, l3, l4] ([vi x]) M Q = Q (some (vi x)) M := w_iret mC_130 d130_85 rfl
theorem d130_86 : decode cX11_act 86 = .ok (.aload 4, 2) := by decide +kernel
theorem k130_86 {d x : Nat} {l0 l1 l2 l3 : Option PV} {st : List PV} {M : Mem} {Q : Option PV → Mem → Prop} : WP d 130 86 [l0, l1, l2, l3, some (vr x)] (st) M Q = WP d 130 88 [l0, l1, l2, l3, some (vr x)] (vr x :: st) M Q := w1 mC_130 d130_86 rfl rfl
theorem d130_88 : decode cX11_act 88 = .ok (.iload_n 3, 1) := by decide +kernel
theorem k130_88 {d : Nat} {x : Int32} {l0 l1 l2 l4 : Option PV} {st : List PV} {M : Mem} {Q : Option PV → Mem → Prop} : WP d 130 88 [l0, l1, l2, some (vi x), l4] (st) M Q = WP d 130 89 [l0, l1, l2, some (vi x), l4] (vi x :: st) M Q := w1 mC_130 d130_88 rfl rfl
theorem d130_89 : decode cX11_act 89 = .ok (.invokevirtual 357, 3) := by decide +kernel
theorem k130_89v0 {d : Nat} {l0 l1 l2 l3 l4 : Option PV} {st : List PV} {M : Mem} {Q : Option PV → Mem → Prop} {a0 : Int32} {r : Nat} (hl : szL st ≤ 8) (hk : mK M r = 0) : WP (d + 1) 130 89 [l0, l1, l2, l3, l4] (vi a0 :: vr r :: st) M Q = WP d 46 0 [some (vr r), some (vi a0)] [] M (fun v M' => WP (d + 1) 130 92 [l0, l1, l2, l3, l4] (psh v st) M' Q) := w_callV mC_130 d130_89 (ci := 0) rfl rfl rfl (Nat.le_of_ble_eq_true rfl) (by decide) rfl hl hk
theorem k130_89v1 {d : Nat} {l0 l1 l2 l3 l4 : Option PV} {st : List PV} {M : Mem} {Q : Option PV → Mem → Prop} {a0 : Int32} {r : Nat} (hl : szL st ≤ 8) (hk : mK M r = 1) : WP (d + 1) 130 89 [l0, l1, l2, l3, l4] (vi a0 :: vr r :: st) M Q = WP d 56 0 [some (vr r), some (vi a0)] [] M (fun v M' => WP (d + 1) 130 92 [l0, l1, l2, l3, l4] (psh v st) M' Q) := w_callV mC_130 d130_89 (ci := 1) rfl rfl rfl (Nat.le_of_ble_eq_true rfl) (by decide) rfl hl hk
theorem k130_89v2 {d : Nat} {l0 l1 l2 l3 l4 : Option PV} {st : List PV} {M : Mem} {Q : Option PV → Mem → Prop} {a0 : Int32} {r : Nat} (hl : szL st ≤ 8) (hk : mK M r = 2) : WP (d + 1) 130 89 [l0, l1, l2, l3, l4] (vi a0 :: vr r :: st) M Q = WP d 56 0 [some (vr r), some (vi a0)] [] M (fun v M' => WP (d + 1) 130 92 [l0, l1, l2, l3, l4] (psh v st) M' Q) := w_callV mC_130 d130_89 (ci := 2) rfl rfl rfl (Nat.le_of_ble_eq_true rfl) (by decide) rfl hl hk
theorem k130_89v5 {d : Nat} {l0 l1 l2 l3 l4 : Option PV} {st : List PV} {M : Mem} {Q : Option PV → Mem → Prop} {a0 : Int32} {r : Nat} (hl : szL st ≤ 8) (hk : mK M r = 5) : WP (d + 1) 130 89 [l0, l1, l2, l3, l4] (vi a0 :: vr r :: st) M Q = WP d 46 0 [some (vr r), some (vi a0)] [] M (fun v M' => WP (d + 1) 130 92 [l0, l1, l2, l3, l4] (psh v st) M' Q) := w_callV mC_130 d130_89 (ci := 5) rfl rfl rfl (Nat.le_of_ble_eq_true rfl) (by decide) rfl hl hk
theorem k130_89v6 {d : Nat} {l0 l1 l2 l3 l4 : Option PV} {st : List PV} {M : Mem} {Q : Option PV → Mem → Prop} {a0 : Int32} {r : Nat} (hl : szL st ≤ 8) (hk : mK M r = 6) : WP (d + 1) 130 89 [l0, l1, l2, l3, l4] (vi a0 :: vr r :: st) M Q = WP d 56 0 [some (vr r), some (vi a0)] [] M (fun v M' => WP (d + 1) 130 92 [l0, l1, l2, l3, l4] (psh v st) M' Q) := w_callV mC_130 d130_89 (ci := 6) rfl rfl rfl (Nat.le_of_ble_eq_true rfl) (by decide) rfl hl hk
theorem k130_89v7 {d : Nat} {l0 l1 l2 l3 l4 : Option PV} {st : List PV} {M : Mem} {Q : Option PV → Mem → Prop} {a0 : Int32} {r : Nat} (hl : szL st ≤ 8) (hk : mK M r = 7) : WP (d + 1) 130 89 [l0, l1, l2, l3, l4] (vi a0 :: vr r :: st) M Q = WP d 51 0 [some (vr r), some (vi a0)] [] M (fun v M' => WP (d + 1) 130 92 [l0, l1, l2, l3, l4] (psh v st) M' Q) := w_callV mC_130 d130_89 (ci := 7) rfl rfl rfl (Nat.le_of_ble_eq_true rfl) (by decide) rfl hl hk
theorem k130_89v8 {d : Nat} {l0 l1 l2 l3 l4 : Option PV} {st : List PV} {M : Mem} {Q : Option PV → Mem → Prop} {a0 : Int32} {r : Nat} (hl : szL st ≤ 8) (hk : mK M r = 8) : WP (d + 1) 130 89 [l0, l1, l2, l3, l4] (vi a0 :: vr r :: st) M Q = WP d 56 0 [some (vr r), some (vi a0)] [] M (fun v M' => WP (d + 1) 130 92 [l0, l1, l2, l3, l4] (psh v st) M' Q) := w_callV mC_130 d130_89 (ci := 8) rfl rfl rfl (Nat.le_of_ble_eq_true rfl) (by decide) rfl hl hk
theorem k130_89v10 {d : Nat} {l0 l1 l2 l3 l4 : Option PV} {st : List PV} {M : Mem} {Q : Option PV → Mem → Prop} {a0 : Int32} {r : Nat} (hl : szL st ≤ 8) (hk : mK M r = 10) : WP (d + 1) 130 89 [l0, l1, l2, l3, l4] (vi a0 :: vr r :: st) M Q = WP d 51 0 [some (vr r), some (vi a0)] [] M (fun v M' => WP (d + 1) 130 92 [l0, l1, l2, l3, l4] (psh v st) M' Q) := w_callV mC_130 d130_89 (ci := 10) rfl rfl rfl (Nat.le_of_ble_eq_true rfl) (by decide) rfl hl hk
theorem d130_92 : decode cX11_act 92 = .ok (.ireturn, 1) := by decide +kernel
theorem k130_92 {d : Nat} {l0 l1 l2 l3 l4 : Option PV} {M : Mem} {Q : Option PV → Mem → Prop} {x : Int32} : WP d 130 92 [l0, l1, l2, l3, l4] ([vi x]) M Q = Q (some (vi x)) M := w_iret mC_130 d130_92 rfl
theorem d130_93 : decode cX11_act 93 = .ok (.aload 4, 2) := by decide +kernel
theorem k130_93 {d x : Nat} {l0 l1 l2 l3 : Option PV} {st : List PV} {M : Mem} {Q : Option PV → Mem → Prop} : WP d 130 93 [l0, l1, l2, l3, some (vr x)] (st) M Q = WP d 130 95 [l0, l1, l2, l3, some (vr x)] (vr x :: st) M Q := w1 mC_130 d130_93 rfl rfl
theorem d130_95 : decode cX11_act 95 = .ok (.iload_n 3, 1) := by decide +kernel
theorem k130_95 {d : Nat} {x : Int32} {l0 l1 l2 l4 : Option PV} {st : List PV} {M : Mem} {Q : Option PV → Mem → Prop} : WP d 130 95 [l0, l1, l2, some (vi x), l4] (st) M Q = WP d 130 96 [l0, l1, l2, some (vi x), l4] (vi x :: st) M Q := w1 mC_130 d130_95 rfl rfl
theorem d130_96 : decode cX11_act 96 = .ok (.invokevirtual 360, 3) := by decide +kernel
theorem k130_96v0 {d : Nat} {l0 l1 l2 l3 l4 : Option PV} {st : List PV} {M : Mem} {Q : Option PV → Mem → Prop} {a0 : Int32} {r : Nat} (hl : szL st ≤ 8) (hk : mK M r = 0) : WP (d + 1) 130 96 [l0, l1, l2, l3, l4] (vi a0 :: vr r :: st) M Q = WP d 2 0 [some (vr r), some (vi a0)] [] M (fun v M' => WP (d + 1) 130 99 [l0, l1, l2, l3, l4] (psh v st) M' Q) := w_callV mC_130 d130_96 (ci := 0) rfl rfl rfl (Nat.le_of_ble_eq_true rfl) (by decide) rfl hl hk
theorem k130_96v1 {d : Nat} {l0 l1 l2 l3 l4 : Option PV} {st : List PV} {M : Mem} {Q : Option PV → Mem → Prop} {a0 : Int32} {r : Nat} (hl : szL st ≤ 8) (hk : mK M r = 1) : WP (d + 1) 130 96 [l0, l1, l2, l3, l4] (vi a0 :: vr r :: st) M Q = WP d 57 0 [some (vr r), some (vi a0)] [] M (fun v M' => WP (d + 1) 130 99 [l0, l1, l2, l3, l4] (psh v st) M' Q) := w_callV mC_130 d130_96 (ci := 1) rfl rfl rfl (Nat.le_of_ble_eq_true rfl) (by decide) rfl hl hk
theorem k130_96v2 {d : Nat} {l0 l1 l2 l3 l4 : Option PV} {st : List PV} {M : Mem} {Q : Option PV → Mem → Prop} {a0 : Int32} {r : Nat} (hl : szL st ≤ 8) (hk : mK M r = 2) : WP (d + 1) 130 96 [l0, l1, l2, l3, l4] (vi a0 :: vr r :: st) M Q = WP d 57 0 [some (vr r), some (vi a0)] [] M (fun v M' => WP (d + 1) 130 99 [l0, l1, l2, l3, l4] (psh v st) M' Q) := w_callV mC_130 d130_96 (ci := 2) rfl rfl rfl (Nat.le_of_ble_eq_true rfl) (by decide) rfl hl hk
theorem k130_96v5 {d : Nat} {l0 l1 l2 l3 l4 : Option PV} {st : List PV} {M : Mem} {Q : Option PV → Mem → Prop} {a0 : Int32} {r : Nat} (hl : szL st ≤ 8) (hk : mK M r = 5) : WP (d + 1) 130 96 [l0, l1, l2, l3, l4] (vi a0 :: vr r :: st) M Q = WP d 57 0 [some (vr r), some (vi a0)] [] M (fun v M' => WP (d + 1) 130 99 [l0, l1, l2, l3, l4] (psh v st) M' Q) := w_callV mC_130 d130_96 (ci := 5) rfl rfl rfl (Nat.le_of_ble_eq_true rfl) (by decide) rfl hl hk
theorem k130_96v6 {d : Nat} {l0 l1 l2 l3 l4 : Option PV} {st : List PV} {M : Mem} {Q : Option PV → Mem → Prop} {a0 : Int32} {r : Nat} (hl : szL st ≤ 8) (hk : mK M r = 6) : WP (d + 1) 130 96 [l0, l1, l2, l3, l4] (vi a0 :: vr r :: st) M Q = WP d 57 0 [some (vr r), some (vi a0)] [] M (fun v M' => WP (d + 1) 130 99 [l0, l1, l2, l3, l4] (psh v st) M' Q) := w_callV mC_130 d130_96 (ci := 6) rfl rfl rfl (Nat.le_of_ble_eq_true rfl) (by decide) rfl hl hk
theorem k130_96v7 {d : Nat} {l0 l1 l2 l3 l4 : Option PV} {st : List PV} {M : Mem} {Q : Option PV → Mem → Prop} {a0 : Int32} {r : Nat} (hl : szL st ≤ 8) (hk : mK M r = 7) : WP (d + 1) 130 96 [l0, l1, l2, l3, l4] (vi a0 :: vr r :: st) M Q = WP d 57 0 [some (vr r), some (vi a0)] [] M (fun v M' => WP (d + 1) 130 99 [l0, l1, l2, l3, l4] (psh v st) M' Q) := w_callV mC_130 d130_96 (ci := 7) rfl rfl rfl (Nat.le_of_ble_eq_true rfl) (by decide) rfl hl hk
theorem k130_96v8 {d : Nat} {l0 l1 l2 l3 l4 : Option PV} {st : List PV} {M : Mem} {Q : Option PV → Mem → Prop} {a0 : Int32} {r : Nat} (hl : szL st ≤ 8) (hk : mK M r = 8) : WP (d + 1) 130 96 [l0, l1, l2, l3, l4] (vi a0 :: vr r :: st) M Q = WP d 57 0 [some (vr r), some (vi a0)] [] M (fun v M' => WP (d + 1) 130 99 [l0, l1, l2, l3, l4] (psh v st) M' Q) := w_callV mC_130 d130_96 (ci := 8) rfl rfl rfl (Nat.le_of_ble_eq_true rfl) (by decide) rfl hl hk
theorem k130_96v10 {d : Nat} {l0 l1 l2 l3 l4 : Option PV} {st : List PV} {M : Mem} {Q : Option PV → Mem → Prop} {a0 : Int32} {r : Nat} (hl : szL st ≤ 8) (hk : mK M r = 10) : WP (d + 1) 130 96 [l0, l1, l2, l3, l4] (vi a0 :: vr r :: st) M Q = WP d 69 0 [some (vr r), some (vi a0)] [] M (fun v M' => WP (d + 1) 130 99 [l0, l1, l2, l3, l4] (psh v st) M' Q) := w_callV mC_130 d130_96 (ci := 10) rfl rfl rfl (Nat.le_of_ble_eq_true rfl) (by decide) rfl hl hk
theorem d130_99 : decode cX11_act 99 = .ok (.ireturn, 1) := by decide +kernel
theorem k130_99 {d : Nat} {l0 l1 l2 l3 l4 : Option PV} {M : Mem} {Q : Option PV → Mem → Prop} {x : Int32} : WP d 130 99 [l0, l1, l2, l3, l4] ([vi x]) M Q = Q (some (vi x)) M := w_iret mC_130 d130_99 rfl
theorem d130_100 : decode cX11_act 100 = .ok (.iconst 0, 1) := by decide +kernel
theorem k130_100 {d : Nat} {l0 l1 l2 l3 l4 : Option PV} {st : List PV} {M : Mem} {Q : Option PV → Mem → Prop} : WP d 130 100 [l0, l1, l2, l3, l4] (st) M Q = WP d 130 101 [l0, l1, l2, l3, l4] (vi 0 :: st) M Q := w_iconst mC_130 d130_100 (by decide)
theorem d130_101 : decode cX11_act 101 = .ok (.ireturn, 1) := by decide +kernel
theorem k130_101 {d : Nat} {l0 l1 l2 l3 l4 : Option PV} {M : Mem} {Q : Option PV → Mem → Prop} {x : Int32} : WP d 130 101 [l0, l1, l2, l3, l4] ([vi x]) M Q = Q (some (vi x)) M := w_iret mC_130 d130_101 rfl
theorem d131_0 : decode cX11_trace 0 = .ok (.iload_n 1, 1) := by decide +kernel
theorem k131_0 {d : Nat} {x : Int32} {l0 : Option PV} {st : List PV} {M : Mem} {Q : Option PV → Mem → Prop} : WP d 131 0 [l0, some (vi x)] (st) M Q = WP d 131 1 [l0, some (vi x)] (vi x :: st) M Q := w1 mC_131 d131_0 rfl rfl
theorem d131_1 : decode cX11_trace 1 = .ok (.iconst 0, 1) := by decide +kernel
theorem k131_1 {d : Nat} {l0 l1 : Option PV} {st : List PV} {M : Mem} {Q : Option PV → Mem → Prop} : WP d 131 1 [l0, l1] (st) M Q = WP d 131 2 [l0, l1] (vi 0 :: st) M Q := w_iconst mC_131 d131_1 (by decide)
theorem d131_2 : decode cX11_trace 2 = .ok (.aload_n 0, 1) := by decide +kernel
theorem k131_2 {d x : Nat} {l1 : Option PV} {st : List PV} {M : Mem} {Q : Option PV → Mem → Prop} : WP d 131 2 [some (vr x), l1] (st) M Q = WP d 131 3 [some (vr x), l1] (vr x :: st) M Q := w1 mC_131 d131_2 rfl rfl
theorem d131_3 : decode cX11_trace 3 = .ok (.getfield 53, 3) := by decide +kernel
theorem k131_3 {d : Nat} {l0 l1 : Option PV} {st : List PV} {M : Mem} {Q : Option PV → Mem → Prop} {r : Nat} (hk : mK M r = 11) : WP d 131 3 [l0, l1] (vr r :: st) M Q = WP d 131 6 [l0, l1] (vr (mR M r 15) :: st) M Q := w_getr mC_131 d131_3 fE_11_53 rfl (by rw [hk]; rfl)
theorem d131_6 : decode cX11_trace 6 = .ok (.iconst 0, 1) := by decide +kernel
theorem k131_6 {d : Nat} {l0 l1 : Option PV} {st : List PV} {M : Mem} {Q : Option PV → Mem → Prop} : WP d 131 6 [l0, l1] (st) M Q = WP d 131 7 [l0, l1] (vi 0 :: st) M Q := w_iconst mC_131 d131_6 (by decide)
theorem d131_7 : decode cX11_trace 7 = .ok (.iaload, 1) := by decide +kernel
theorem k131_7 {d : Nat} {l0 l1 : Option PV} {st : List PV} {M : Mem} {Q : Option PV → Mem → Prop} {r : Nat} {j : Int32} (hk : mK M r = 13) (hj : inb j (mN M r)) (h1 : r ≠ 1) : WP d 131 7 [l0, l1] (vi j :: vr r :: st) M Q = WP d 131 8 [l0, l1] (vi (mI M r (ix j)) :: st) M Q := w_iald mC_131 d131_7 (by decide) hk hj h1
theorem d131_8 : decode cX11_trace 8 = .ok (.bipush 24, 2) := by decide +kernel
theorem k131_8 {d : Nat} {l0 l1 : Option PV} {st : List PV} {M : Mem} {Q : Option PV → Mem → Prop} : WP d 131 8 [l0, l1] (st) M Q = WP d 131 10 [l0, l1] (vi 24 :: st) M Q := w_bipush mC_131 d131_8 (by decide)
theorem d131_10 : decode cX11_trace 10 = .ok (.invokestatic 257, 3) := by decide +kernel
theorem k131_10 {d : Nat} {l0 l1 : Option PV} {st : List PV} {M : Mem} {Q : Option PV → Mem → Prop} {x y : Int32} (hl : szL st ≤ 8) : WP d 131 10 [l0, l1] (vi y :: vi x :: st) M Q = WP d 131 13 [l0, l1] (vi (if y < x then y else x) :: st) M Q := w_min mC_131 d131_10 rfl rfl rfl hl
theorem d131_13 : decode cX11_trace 13 = .ok (.iconst 1, 1) := by decide +kernel
theorem k131_13 {d : Nat} {l0 l1 : Option PV} {st : List PV} {M : Mem} {Q : Option PV → Mem → Prop} : WP d 131 13 [l0, l1] (st) M Q = WP d 131 14 [l0, l1] (vi 1 :: st) M Q := w_iconst mC_131 d131_13 (by decide)
theorem d131_14 : decode cX11_trace 14 = .ok (.isub, 1) := by decide +kernel
theorem k131_14 {d : Nat} {l0 l1 : Option PV} {st : List PV} {M : Mem} {Q : Option PV → Mem → Prop} {x y : Int32} : WP d 131 14 [l0, l1] (vi y :: vi x :: st) M Q = WP d 131 15 [l0, l1] (vi (x - y) :: st) M Q := w1 mC_131 d131_14 rfl rfl
theorem d131_15 : decode cX11_trace 15 = .ok (.invokestatic 79, 3) := by decide +kernel
theorem k131_15 {d : Nat} {l0 l1 : Option PV} {st : List PV} {M : Mem} {Q : Option PV → Mem → Prop} {a0 a1 a2 : Int32} (hl : szL st ≤ 8) : WP (d + 1) 131 15 [l0, l1] (vi a2 :: vi a1 :: vi a0 :: st) M Q = WP d 141 0 [some (vi a0), some (vi a1), some (vi a2)] [] M (fun v M' => WP (d + 1) 131 18 [l0, l1] (psh v st) M' Q) := w_callS mC_131 d131_15 rfl rfl (Nat.le_of_ble_eq_true rfl) (by decide) rfl hl
theorem d131_18 : decode cX11_trace 18 = .ok (.ifCond .eq 14, 3) := by decide +kernel
theorem k131_18 {d : Nat} {l0 l1 : Option PV} {st : List PV} {M : Mem} {Q : Option PV → Mem → Prop} {x : Int32} : WP d 131 18 [l0, l1] (vi x :: st) M Q = (if x = 0 then WP d 131 32 [l0, l1] (st) M Q else WP d 131 21 [l0, l1] (st) M Q) := w_if_eq mC_131 d131_18 (by decide)
theorem d131_21 : decode cX11_trace 21 = .ok (.aload_n 0, 1) := by decide +kernel
theorem k131_21 {d x : Nat} {l1 : Option PV} {st : List PV} {M : Mem} {Q : Option PV → Mem → Prop} : WP d 131 21 [some (vr x), l1] (st) M Q = WP d 131 22 [some (vr x), l1] (vr x :: st) M Q := w1 mC_131 d131_21 rfl rfl
theorem d131_22 : decode cX11_trace 22 = .ok (.getfield 53, 3) := by decide +kernel
theorem k131_22 {d : Nat} {l0 l1 : Option PV} {st : List PV} {M : Mem} {Q : Option PV → Mem → Prop} {r : Nat} (hk : mK M r = 11) : WP d 131 22 [l0, l1] (vr r :: st) M Q = WP d 131 25 [l0, l1] (vr (mR M r 15) :: st) M Q := w_getr mC_131 d131_22 fE_11_53 rfl (by rw [hk]; rfl)
theorem d131_25 : decode cX11_trace 25 = .ok (.iconst 1, 1) := by decide +kernel
theorem k131_25 {d : Nat} {l0 l1 : Option PV} {st : List PV} {M : Mem} {Q : Option PV → Mem → Prop} : WP d 131 25 [l0, l1] (st) M Q = WP d 131 26 [l0, l1] (vi 1 :: st) M Q := w_iconst mC_131 d131_25 (by decide)
theorem d131_26 : decode cX11_trace 26 = .ok (.iload_n 1, 1) := by decide +kernel
theorem k131_26 {d : Nat} {x : Int32} {l0 : Option PV} {st : List PV} {M : Mem} {Q : Option PV → Mem → Prop} : WP d 131 26 [l0, some (vi x)] (st) M Q = WP d 131 27 [l0, some (vi x)] (vi x :: st) M Q := w1 mC_131 d131_26 rfl rfl
theorem d131_27 : decode cX11_trace 27 = .ok (.iadd, 1) := by decide +kernel
theorem k131_27 {d : Nat} {l0 l1 : Option PV} {st : List PV} {M : Mem} {Q : Option PV → Mem → Prop} {x y : Int32} : WP d 131 27 [l0, l1] (vi y :: vi x :: st) M Q = WP d 131 28 [l0, l1] (vi (x + y) :: st) M Q := w1 mC_131 d131_27 rfl rfl
theorem d131_28 : decode cX11_trace 28 = .ok (.iaload, 1) := by decide +kernel
theorem k131_28 {d : Nat} {l0 l1 : Option PV} {st : List PV} {M : Mem} {Q : Option PV → Mem → Prop} {r : Nat} {j : Int32} (hk : mK M r = 13) (hj : inb j (mN M r)) (h1 : r ≠ 1) : WP d 131 28 [l0, l1] (vi j :: vr r :: st) M Q = WP d 131 29 [l0, l1] (vi (mI M r (ix j)) :: st) M Q := w_iald mC_131 d131_28 (by decide) hk hj h1
theorem d131_29 : decode cX11_trace 29 = .ok (.goto 4, 3) := by decide +kernel
theorem k131_29 {d : Nat} {l0 l1 : Option PV} {st : List PV} {M : Mem} {Q : Option PV → Mem → Prop} : WP d 131 29 [l0, l1] (st) M Q = WP d 131 33 [l0, l1] (st) M Q := w_goto mC_131 d131_29 (by decide)
theorem d131_32 : decode cX11_trace 32 = .ok (.iconst (-1), 1) := by decide +kernel
theorem k131_32 {d : Nat} {l0 l1 : Option PV} {st : List PV} {M : Mem} {Q : Option PV → Mem → Prop} : WP d 131 32 [l0, l1] (st) M Q = WP d 131 33 [l0, l1] (vi (-1) :: st) M Q := w_iconst mC_131 d131_32 (by decide)
theorem d131_33 : decode cX11_trace 33 = .ok (.ireturn, 1) := by decide +kernel
theorem k131_33 {d : Nat} {l0 l1 : Option PV} {M : Mem} {Q : Option PV → Mem → Prop} {x : Int32} : WP d 131 33 [l0, l1] ([vi x]) M Q = Q (some (vi x)) M := w_iret mC_131 d131_33 rfl
theorem d132_0 : decode cX11_keep 0 = .ok (.iload_n 1, 1) := by decide +kernel
theorem k132_0 {d : Nat} {x : Int32} {l0 l2 : Option PV} {st : List PV} {M : Mem} {Q : Option PV → Mem → Prop} : WP d 132 0 [l0, some (vi x), l2] (st) M Q = WP d 132 1 [l0, some (vi x), l2] (vi x :: st) M Q := w1 mC_132 d132_0 rfl rfl
theorem d132_1 : decode cX11_keep 1 = .ok (.invokestatic 75, 3) := by decide +kernel
theorem k132_1 {d : Nat} {l0 l1 l2 : Option PV} {st : List PV} {M : Mem} {Q : Option PV → Mem → Prop} {a0 : Int32} (hl : szL st ≤ 8) : WP (d + 1) 132 1 [l0, l1, l2] (vi a0 :: st) M Q = WP d 142 0 [some (vi a0)] [] M (fun v M' => WP (d + 1) 132 4 [l0, l1, l2] (psh v st) M' Q) := w_callS mC_132 d132_1 rfl rfl (Nat.le_of_ble_eq_true rfl) (by decide) rfl hl
theorem d132_4 : decode cX11_keep 4 = .ok (.ifCond .eq 17, 3) := by decide +kernel
theorem k132_4 {d : Nat} {l0 l1 l2 : Option PV} {st : List PV} {M : Mem} {Q : Option PV → Mem → Prop} {x : Int32} : WP d 132 4 [l0, l1, l2] (vi x :: st) M Q = (if x = 0 then WP d 132 21 [l0, l1, l2] (st) M Q else WP d 132 7 [l0, l1, l2] (st) M Q) := w_if_eq mC_132 d132_4 (by decide)
theorem d132_7 : decode cX11_keep 7 = .ok (.iload_n 2, 1) := by decide +kernel
theorem k132_7 {d : Nat} {x : Int32} {l0 l1 : Option PV} {st : List PV} {M : Mem} {Q : Option PV → Mem → Prop} : WP d 132 7 [l0, l1, some (vi x)] (st) M Q = WP d 132 8 [l0, l1, some (vi x)] (vi x :: st) M Q := w1 mC_132 d132_7 rfl rfl
theorem d132_8 : decode cX11_keep 8 = .ok (.iconst (-1), 1) := by decide +kernel
theorem k132_8 {d : Nat} {l0 l1 l2 : Option PV} {st : List PV} {M : Mem} {Q : Option PV → Mem → Prop} : WP d 132 8 [l0, l1, l2] (st) M Q = WP d 132 9 [l0, l1, l2] (vi (-1) :: st) M Q := w_iconst mC_132 d132_8 (by decide)
theorem d132_9 : decode cX11_keep 9 = .ok (.aload_n 0, 1) := by decide +kernel
theorem k132_9 {d x : Nat} {l1 l2 : Option PV} {st : List PV} {M : Mem} {Q : Option PV → Mem → Prop} : WP d 132 9 [some (vr x), l1, l2] (st) M Q = WP d 132 10 [some (vr x), l1, l2] (vr x :: st) M Q := w1 mC_132 d132_9 rfl rfl
theorem d132_10 : decode cX11_keep 10 = .ok (.getfield 320, 3) := by decide +kernel
theorem k132_10 {d : Nat} {l0 l1 l2 : Option PV} {st : List PV} {M : Mem} {Q : Option PV → Mem → Prop} {r : Nat} (hk : mK M r = 11) : WP d 132 10 [l0, l1, l2] (vr r :: st) M Q = WP d 132 13 [l0, l1, l2] (vi (mI M r 14) :: st) M Q := w_get mC_132 d132_10 fE_11_320 rfl (by rw [hk]; rfl)
theorem d132_13 : decode cX11_keep 13 = .ok (.iconst 1, 1) := by decide +kernel
theorem k132_13 {d : Nat} {l0 l1 l2 : Option PV} {st : List PV} {M : Mem} {Q : Option PV → Mem → Prop} : WP d 132 13 [l0, l1, l2] (st) M Q = WP d 132 14 [l0, l1, l2] (vi 1 :: st) M Q := w_iconst mC_132 d132_13 (by decide)
theorem d132_14 : decode cX11_keep 14 = .ok (.isub, 1) := by decide +kernel
theorem k132_14 {d : Nat} {l0 l1 l2 : Option PV} {st : List PV} {M : Mem} {Q : Option PV → Mem → Prop} {x y : Int32} : WP d 132 14 [l0, l1, l2] (vi y :: vi x :: st) M Q = WP d 132 15 [l0, l1, l2] (vi (x - y) :: st) M Q := w1 mC_132 d132_14 rfl rfl
theorem d132_15 : decode cX11_keep 15 = .ok (.invokestatic 79, 3) := by decide +kernel
theorem k132_15 {d : Nat} {l0 l1 l2 : Option PV} {st : List PV} {M : Mem} {Q : Option PV → Mem → Prop} {a0 a1 a2 : Int32} (hl : szL st ≤ 8) : WP (d + 1) 132 15 [l0, l1, l2] (vi a2 :: vi a1 :: vi a0 :: st) M Q = WP d 141 0 [some (vi a0), some (vi a1), some (vi a2)] [] M (fun v M' => WP (d + 1) 132 18 [l0, l1, l2] (psh v st) M' Q) := w_callS mC_132 d132_15 rfl rfl (Nat.le_of_ble_eq_true rfl) (by decide) rfl hl
theorem d132_18 : decode cX11_keep 18 = .ok (.ifCond .ne 5, 3) := by decide +kernel
theorem k132_18 {d : Nat} {l0 l1 l2 : Option PV} {st : List PV} {M : Mem} {Q : Option PV → Mem → Prop} {x : Int32} : WP d 132 18 [l0, l1, l2] (vi x :: st) M Q = (if x = 0 then WP d 132 21 [l0, l1, l2] (st) M Q else WP d 132 23 [l0, l1, l2] (st) M Q) := w_if_ne mC_132 d132_18 (by decide)
theorem d132_21 : decode cX11_keep 21 = .ok (.iconst (-1), 1) := by decide +kernel
theorem k132_21 {d : Nat} {l0 l1 l2 : Option PV} {st : List PV} {M : Mem} {Q : Option PV → Mem → Prop} : WP d 132 21 [l0, l1, l2] (st) M Q = WP d 132 22 [l0, l1, l2] (vi (-1) :: st) M Q := w_iconst mC_132 d132_21 (by decide)
theorem d132_22 : decode cX11_keep 22 = .ok (.ireturn, 1) := by decide +kernel
theorem k132_22 {d : Nat} {l0 l1 l2 : Option PV} {M : Mem} {Q : Option PV → Mem → Prop} {x : Int32} : WP d 132 22 [l0, l1, l2] ([vi x]) M Q = Q (some (vi x)) M := w_iret mC_132 d132_22 rfl
theorem d132_23 : decode cX11_keep 23 = .ok (.aload_n 0, 1) := by decide +kernel
theorem k132_23 {d x : Nat} {l1 l2 : Option PV} {st : List PV} {M : Mem} {Q : Option PV → Mem → Prop} : WP d 132 23 [some (vr x), l1, l2] (st) M Q = WP d 132 24 [some (vr x), l1, l2] (vr x :: st) M Q := w1 mC_132 d132_23 rfl rfl
theorem d132_24 : decode cX11_keep 24 = .ok (.getfield 58, 3) := by decide +kernel
theorem k132_24 {d : Nat} {l0 l1 l2 : Option PV} {st : List PV} {M : Mem} {Q : Option PV → Mem → Prop} {r : Nat} (hk : mK M r = 11) : WP d 132 24 [l0, l1, l2] (vr r :: st) M Q = WP d 132 27 [l0, l1, l2] (vr (mR M r 16) :: st) M Q := w_getr mC_132 d132_24 fE_11_58 rfl (by rw [hk]; rfl)
theorem d132_27 : decode cX11_keep 27 = .ok (.iload_n 1, 1) := by decide +kernel
theorem k132_27 {d : Nat} {x : Int32} {l0 l2 : Option PV} {st : List PV} {M : Mem} {Q : Option PV → Mem → Prop} : WP d 132 27 [l0, some (vi x), l2] (st) M Q = WP d 132 28 [l0, some (vi x), l2] (vi x :: st) M Q := w1 mC_132 d132_27 rfl rfl
theorem d132_28 : decode cX11_keep 28 = .ok (.aaload, 1) := by decide +kernel
theorem k132_28 {d : Nat} {l0 l1 l2 : Option PV} {st : List PV} {M : Mem} {Q : Option PV → Mem → Prop} {r : Nat} {j : Int32} (hk : mK M r = 15 ∨ mK M r = 16 ∨ mK M r = 17) (hj : inb j (mN M r)) (h1 : r ≠ 1) : WP d 132 28 [l0, l1, l2] (vi j :: vr r :: st) M Q = WP d 132 29 [l0, l1, l2] (vr (mR M r (ix j)) :: st) M Q := w_aald mC_132 d132_28 hk hj h1
theorem d132_29 : decode cX11_keep 29 = .ok (.iload_n 2, 1) := by decide +kernel
theorem k132_29 {d : Nat} {x : Int32} {l0 l1 : Option PV} {st : List PV} {M : Mem} {Q : Option PV → Mem → Prop} : WP d 132 29 [l0, l1, some (vi x)] (st) M Q = WP d 132 30 [l0, l1, some (vi x)] (vi x :: st) M Q := w1 mC_132 d132_29 rfl rfl
theorem d132_30 : decode cX11_keep 30 = .ok (.iconst (-1), 1) := by decide +kernel
theorem k132_30 {d : Nat} {l0 l1 l2 : Option PV} {st : List PV} {M : Mem} {Q : Option PV → Mem → Prop} : WP d 132 30 [l0, l1, l2] (st) M Q = WP d 132 31 [l0, l1, l2] (vi (-1) :: st) M Q := w_iconst mC_132 d132_30 (by decide)
theorem d132_31 : decode cX11_keep 31 = .ok (.if_icmp .ne 7, 3) := by decide +kernel
theorem k132_31 {d : Nat} {l0 l1 l2 : Option PV} {st : List PV} {M : Mem} {Q : Option PV → Mem → Prop} {x y : Int32} : WP d 132 31 [l0, l1, l2] (vi y :: vi x :: st) M Q = (if x = y then WP d 132 34 [l0, l1, l2] (st) M Q else WP d 132 38 [l0, l1, l2] (st) M Q) := w_ic_ne mC_132 d132_31 (by decide)
theorem d132_34 : decode cX11_keep 34 = .ok (.aconst_null, 1) := by decide +kernel
theorem k132_34 {d : Nat} {l0 l1 l2 : Option PV} {st : List PV} {M : Mem} {Q : Option PV → Mem → Prop} : WP d 132 34 [l0, l1, l2] (st) M Q = WP d 132 35 [l0, l1, l2] (vr 0 :: st) M Q := w1 mC_132 d132_34 rfl rfl
theorem d132_35 : decode cX11_keep 35 = .ok (.goto 9, 3) := by decide +kernel
theorem k132_35 {d : Nat} {l0 l1 l2 : Option PV} {st : List PV} {M : Mem} {Q : Option PV → Mem → Prop} : WP d 132 35 [l0, l1, l2] (st) M Q = WP d 132 44 [l0, l1, l2] (st) M Q := w_goto mC_132 d132_35 (by decide)
theorem d132_38 : decode cX11_keep 38 = .ok (.aload_n 0, 1) := by decide +kernel
theorem k132_38 {d x : Nat} {l1 l2 : Option PV} {st : List PV} {M : Mem} {Q : Option PV → Mem → Prop} : WP d 132 38 [some (vr x), l1, l2] (st) M Q = WP d 132 39 [some (vr x), l1, l2] (vr x :: st) M Q := w1 mC_132 d132_38 rfl rfl
theorem d132_39 : decode cX11_keep 39 = .ok (.getfield 49, 3) := by decide +kernel
theorem k132_39 {d : Nat} {l0 l1 l2 : Option PV} {st : List PV} {M : Mem} {Q : Option PV → Mem → Prop} {r : Nat} (hk : mK M r = 11) : WP d 132 39 [l0, l1, l2] (vr r :: st) M Q = WP d 132 42 [l0, l1, l2] (vr (mR M r 13) :: st) M Q := w_getr mC_132 d132_39 fE_11_49 rfl (by rw [hk]; rfl)
theorem d132_42 : decode cX11_keep 42 = .ok (.iload_n 2, 1) := by decide +kernel
theorem k132_42 {d : Nat} {x : Int32} {l0 l1 : Option PV} {st : List PV} {M : Mem} {Q : Option PV → Mem → Prop} : WP d 132 42 [l0, l1, some (vi x)] (st) M Q = WP d 132 43 [l0, l1, some (vi x)] (vi x :: st) M Q := w1 mC_132 d132_42 rfl rfl
theorem d132_43 : decode cX11_keep 43 = .ok (.aaload, 1) := by decide +kernel
theorem k132_43 {d : Nat} {l0 l1 l2 : Option PV} {st : List PV} {M : Mem} {Q : Option PV → Mem → Prop} {r : Nat} {j : Int32} (hk : mK M r = 15 ∨ mK M r = 16 ∨ mK M r = 17) (hj : inb j (mN M r)) (h1 : r ≠ 1) : WP d 132 43 [l0, l1, l2] (vi j :: vr r :: st) M Q = WP d 132 44 [l0, l1, l2] (vr (mR M r (ix j)) :: st) M Q := w_aald mC_132 d132_43 hk hj h1
theorem d132_44 : decode cX11_keep 44 = .ok (.invokevirtual 363, 3) := by decide +kernel
theorem k132_44 {d : Nat} {l0 l1 l2 : Option PV} {st : List PV} {M : Mem} {Q : Option PV → Mem → Prop} {a0 : Nat} {r : Nat} (hl : szL st ≤ 8) (hk : mK M r = 9) : WP (d + 1) 132 44 [l0, l1, l2] (vr a0 :: vr r :: st) M Q = WP d 62 0 [some (vr r), some (vr a0)] [] M (fun v M' => WP (d + 1) 132 47 [l0, l1, l2] (psh v st) M' Q) := w_callV mC_132 d132_44 (ci := 9) rfl rfl rfl (Nat.le_of_ble_eq_true rfl) (by decide) rfl hl hk
theorem d132_47 : decode cX11_keep 47 = .ok (.iconst 1, 1) := by decide +kernel
theorem k132_47 {d : Nat} {l0 l1 l2 : Option PV} {st : List PV} {M : Mem} {Q : Option PV → Mem → Prop} : WP d 132 47 [l0, l1, l2] (st) M Q = WP d 132 48 [l0, l1, l2] (vi 1 :: st) M Q := w_iconst mC_132 d132_47 (by decide)
theorem d132_48 : decode cX11_keep 48 = .ok (.ireturn, 1) := by decide +kernel
theorem k132_48 {d : Nat} {l0 l1 l2 : Option PV} {M : Mem} {Q : Option PV → Mem → Prop} {x : Int32} : WP d 132 48 [l0, l1, l2] ([vi x]) M Q = Q (some (vi x)) M := w_iret mC_132 d132_48 rfl
theorem d133_0 : decode cX11_row 0 = .ok (.iload_n 1, 1) := by decide +kernel
theorem k133_0 {d : Nat} {x : Int32} {l0 l2 l3 : Option PV} {st : List PV} {M : Mem} {Q : Option PV → Mem → Prop} : WP d 133 0 [l0, some (vi x), l2, l3] (st) M Q = WP d 133 1 [l0, some (vi x), l2, l3] (vi x :: st) M Q := w1 mC_133 d133_0 rfl rfl
theorem d133_1 : decode cX11_row 1 = .ok (.invokestatic 75, 3) := by decide +kernel
theorem k133_1 {d : Nat} {l0 l1 l2 l3 : Option PV} {st : List PV} {M : Mem} {Q : Option PV → Mem → Prop} {a0 : Int32} (hl : szL st ≤ 8) : WP (d + 1) 133 1 [l0, l1, l2, l3] (vi a0 :: st) M Q = WP d 142 0 [some (vi a0)] [] M (fun v M' => WP (d + 1) 133 4 [l0, l1, l2, l3] (psh v st) M' Q) := w_callS mC_133 d133_1 rfl rfl (Nat.le_of_ble_eq_true rfl) (by decide) rfl hl
theorem d133_4 : decode cX11_row 4 = .ok (.ifCond .eq 18, 3) := by decide +kernel
theorem k133_4 {d : Nat} {l0 l1 l2 l3 : Option PV} {st : List PV} {M : Mem} {Q : Option PV → Mem → Prop} {x : Int32} : WP d 133 4 [l0, l1, l2, l3] (vi x :: st) M Q = (if x = 0 then WP d 133 22 [l0, l1, l2, l3] (st) M Q else WP d 133 7 [l0, l1, l2, l3] (st) M Q) := w_if_eq mC_133 d133_4 (by decide)
theorem d133_7 : decode cX11_row 7 = .ok (.iload_n 2, 1) := by decide +kernel
theorem k133_7 {d : Nat} {x : Int32} {l0 l1 l3 : Option PV} {st : List PV} {M : Mem} {Q : Option PV → Mem → Prop} : WP d 133 7 [l0, l1, some (vi x), l3] (st) M Q = WP d 133 8 [l0, l1, some (vi x), l3] (vi x :: st) M Q := w1 mC_133 d133_7 rfl rfl
theorem d133_8 : decode cX11_row 8 = .ok (.iconst 0, 1) := by decide +kernel
theorem k133_8 {d : Nat} {l0 l1 l2 l3 : Option PV} {st : List PV} {M : Mem} {Q : Option PV → Mem → Prop} : WP d 133 8 [l0, l1, l2, l3] (st) M Q = WP d 133 9 [l0, l1, l2, l3] (vi 0 :: st) M Q := w_iconst mC_133 d133_8 (by decide)
theorem d133_9 : decode cX11_row 9 = .ok (.iconst 4, 1) := by decide +kernel
theorem k133_9 {d : Nat} {l0 l1 l2 l3 : Option PV} {st : List PV} {M : Mem} {Q : Option PV → Mem → Prop} : WP d 133 9 [l0, l1, l2, l3] (st) M Q = WP d 133 10 [l0, l1, l2, l3] (vi 4 :: st) M Q := w_iconst mC_133 d133_9 (by decide)
theorem d133_10 : decode cX11_row 10 = .ok (.invokestatic 79, 3) := by decide +kernel
theorem k133_10 {d : Nat} {l0 l1 l2 l3 : Option PV} {st : List PV} {M : Mem} {Q : Option PV → Mem → Prop} {a0 a1 a2 : Int32} (hl : szL st ≤ 8) : WP (d + 1) 133 10 [l0, l1, l2, l3] (vi a2 :: vi a1 :: vi a0 :: st) M Q = WP d 141 0 [some (vi a0), some (vi a1), some (vi a2)] [] M (fun v M' => WP (d + 1) 133 13 [l0, l1, l2, l3] (psh v st) M' Q) := w_callS mC_133 d133_10 rfl rfl (Nat.le_of_ble_eq_true rfl) (by decide) rfl hl
theorem d133_13 : decode cX11_row 13 = .ok (.ifCond .eq 9, 3) := by decide +kernel
theorem k133_13 {d : Nat} {l0 l1 l2 l3 : Option PV} {st : List PV} {M : Mem} {Q : Option PV → Mem → Prop} {x : Int32} : WP d 133 13 [l0, l1, l2, l3] (vi x :: st) M Q = (if x = 0 then WP d 133 22 [l0, l1, l2, l3] (st) M Q else WP d 133 16 [l0, l1, l2, l3] (st) M Q) := w_if_eq mC_133 d133_13 (by decide)
theorem d133_16 : decode cX11_row 16 = .ok (.iload_n 3, 1) := by decide +kernel
theorem k133_16 {d : Nat} {x : Int32} {l0 l1 l2 : Option PV} {st : List PV} {M : Mem} {Q : Option PV → Mem → Prop} : WP d 133 16 [l0, l1, l2, some (vi x)] (st) M Q = WP d 133 17 [l0, l1, l2, some (vi x)] (vi x :: st) M Q := w1 mC_133 d133_16 rfl rfl
theorem d133_17 : decode cX11_row 17 = .ok (.bipush 60, 2) := by decide +kernel
theorem k133_17 {d : Nat} {l0 l1 l2 l3 : Option PV} {st : List PV} {M : Mem} {Q : Option PV → Mem → Prop} : WP d 133 17 [l0, l1, l2, l3] (st) M Q = WP d 133 19 [l0, l1, l2, l3] (vi 60 :: st) M Q := w_bipush mC_133 d133_17 (by decide)
theorem d133_19 : decode cX11_row 19 = .ok (.if_icmp .le 5, 3) := by decide +kernel
theorem k133_19 {d : Nat} {l0 l1 l2 l3 : Option PV} {st : List PV} {M : Mem} {Q : Option PV → Mem → Prop} {x y : Int32} : WP d 133 19 [l0, l1, l2, l3] (vi y :: vi x :: st) M Q = (if x ≤ y then WP d 133 24 [l0, l1, l2, l3] (st) M Q else WP d 133 22 [l0, l1, l2, l3] (st) M Q) := w_ic_le mC_133 d133_19 (by decide)
theorem d133_22 : decode cX11_row 22 = .ok (.iconst (-1), 1) := by decide +kernel
theorem k133_22 {d : Nat} {l0 l1 l2 l3 : Option PV} {st : List PV} {M : Mem} {Q : Option PV → Mem → Prop} : WP d 133 22 [l0, l1, l2, l3] (st) M Q = WP d 133 23 [l0, l1, l2, l3] (vi (-1) :: st) M Q := w_iconst mC_133 d133_22 (by decide)
theorem d133_23 : decode cX11_row 23 = .ok (.ireturn, 1) := by decide +kernel
theorem k133_23 {d : Nat} {l0 l1 l2 l3 : Option PV} {M : Mem} {Q : Option PV → Mem → Prop} {x : Int32} : WP d 133 23 [l0, l1, l2, l3] ([vi x]) M Q = Q (some (vi x)) M := w_iret mC_133 d133_23 rfl
theorem d133_24 : decode cX11_row 24 = .ok (.iload_n 3, 1) := by decide +kernel
theorem k133_24 {d : Nat} {x : Int32} {l0 l1 l2 : Option PV} {st : List PV} {M : Mem} {Q : Option PV → Mem → Prop} : WP d 133 24 [l0, l1, l2, some (vi x)] (st) M Q = WP d 133 25 [l0, l1, l2, some (vi x)] (vi x :: st) M Q := w1 mC_133 d133_24 rfl rfl
theorem d133_25 : decode cX11_row 25 = .ok (.ifCond .ge 6, 3) := by decide +kernel
theorem k133_25 {d : Nat} {l0 l1 l2 l3 : Option PV} {st : List PV} {M : Mem} {Q : Option PV → Mem → Prop} {x : Int32} : WP d 133 25 [l0, l1, l2, l3] (vi x :: st) M Q = (if 0 ≤ x then WP d 133 31 [l0, l1, l2, l3] (st) M Q else WP d 133 28 [l0, l1, l2, l3] (st) M Q) := w_if_ge mC_133 d133_25 (by decide)
theorem d133_28 : decode cX11_row 28 = .ok (.bipush (-14), 2) := by decide +kernel
theorem k133_28 {d : Nat} {l0 l1 l2 l3 : Option PV} {st : List PV} {M : Mem} {Q : Option PV → Mem → Prop} : WP d 133 28 [l0, l1, l2, l3] (st) M Q = WP d 133 30 [l0, l1, l2, l3] (vi (-14) :: st) M Q := w_bipush mC_133 d133_28 (by decide)
theorem d133_30 : decode cX11_row 30 = .ok (.ireturn, 1) := by decide +kernel
theorem k133_30 {d : Nat} {l0 l1 l2 l3 : Option PV} {M : Mem} {Q : Option PV → Mem → Prop} {x : Int32} : WP d 133 30 [l0, l1, l2, l3] ([vi x]) M Q = Q (some (vi x)) M := w_iret mC_133 d133_30 rfl
theorem d133_31 : decode cX11_row 31 = .ok (.aload_n 0, 1) := by decide +kernel
theorem k133_31 {d x : Nat} {l1 l2 l3 : Option PV} {st : List PV} {M : Mem} {Q : Option PV → Mem → Prop} : WP d 133 31 [some (vr x), l1, l2, l3] (st) M Q = WP d 133 32 [some (vr x), l1, l2, l3] (vr x :: st) M Q := w1 mC_133 d133_31 rfl rfl
theorem d133_32 : decode cX11_row 32 = .ok (.getfield 58, 3) := by decide +kernel
theorem k133_32 {d : Nat} {l0 l1 l2 l3 : Option PV} {st : List PV} {M : Mem} {Q : Option PV → Mem → Prop} {r : Nat} (hk : mK M r = 11) : WP d 133 32 [l0, l1, l2, l3] (vr r :: st) M Q = WP d 133 35 [l0, l1, l2, l3] (vr (mR M r 16) :: st) M Q := w_getr mC_133 d133_32 fE_11_58 rfl (by rw [hk]; rfl)
theorem d133_35 : decode cX11_row 35 = .ok (.iload_n 1, 1) := by decide +kernel
theorem k133_35 {d : Nat} {x : Int32} {l0 l2 l3 : Option PV} {st : List PV} {M : Mem} {Q : Option PV → Mem → Prop} : WP d 133 35 [l0, some (vi x), l2, l3] (st) M Q = WP d 133 36 [l0, some (vi x), l2, l3] (vi x :: st) M Q := w1 mC_133 d133_35 rfl rfl
theorem d133_36 : decode cX11_row 36 = .ok (.aaload, 1) := by decide +kernel
theorem k133_36 {d : Nat} {l0 l1 l2 l3 : Option PV} {st : List PV} {M : Mem} {Q : Option PV → Mem → Prop} {r : Nat} {j : Int32} (hk : mK M r = 15 ∨ mK M r = 16 ∨ mK M r = 17) (hj : inb j (mN M r)) (h1 : r ≠ 1) : WP d 133 36 [l0, l1, l2, l3] (vi j :: vr r :: st) M Q = WP d 133 37 [l0, l1, l2, l3] (vr (mR M r (ix j)) :: st) M Q := w_aald mC_133 d133_36 hk hj h1
theorem d133_37 : decode cX11_row 37 = .ok (.iload_n 2, 1) := by decide +kernel
theorem k133_37 {d : Nat} {x : Int32} {l0 l1 l3 : Option PV} {st : List PV} {M : Mem} {Q : Option PV → Mem → Prop} : WP d 133 37 [l0, l1, some (vi x), l3] (st) M Q = WP d 133 38 [l0, l1, some (vi x), l3] (vi x :: st) M Q := w1 mC_133 d133_37 rfl rfl
theorem d133_38 : decode cX11_row 38 = .ok (.iload_n 3, 1) := by decide +kernel
theorem k133_38 {d : Nat} {x : Int32} {l0 l1 l2 : Option PV} {st : List PV} {M : Mem} {Q : Option PV → Mem → Prop} : WP d 133 38 [l0, l1, l2, some (vi x)] (st) M Q = WP d 133 39 [l0, l1, l2, some (vi x)] (vi x :: st) M Q := w1 mC_133 d133_38 rfl rfl
theorem d133_39 : decode cX11_row 39 = .ok (.invokevirtual 367, 3) := by decide +kernel
theorem k133_39 {d : Nat} {l0 l1 l2 l3 : Option PV} {st : List PV} {M : Mem} {Q : Option PV → Mem → Prop} {a0 a1 : Int32} {r : Nat} (hl : szL st ≤ 8) (hk : mK M r = 9) : WP (d + 1) 133 39 [l0, l1, l2, l3] (vi a1 :: vi a0 :: vr r :: st) M Q = WP d 63 0 [some (vr r), some (vi a0), some (vi a1)] [] M (fun v M' => WP (d + 1) 133 42 [l0, l1, l2, l3] (psh v st) M' Q) := w_callV mC_133 d133_39 (ci := 9) rfl rfl rfl (Nat.le_of_ble_eq_true rfl) (by decide) rfl hl hk
theorem d133_42 : decode cX11_row 42 = .ok (.iconst 1, 1) := by decide +kernel
theorem k133_42 {d : Nat} {l0 l1 l2 l3 : Option PV} {st : List PV} {M : Mem} {Q : Option PV → Mem → Prop} : WP d 133 42 [l0, l1, l2, l3] (st) M Q = WP d 133 43 [l0, l1, l2, l3] (vi 1 :: st) M Q := w_iconst mC_133 d133_42 (by decide)
theorem d133_43 : decode cX11_row 43 = .ok (.ireturn, 1) := by decide +kernel
theorem k133_43 {d : Nat} {l0 l1 l2 l3 : Option PV} {M : Mem} {Q : Option PV → Mem → Prop} {x : Int32} : WP d 133 43 [l0, l1, l2, l3] ([vi x]) M Q = Q (some (vi x)) M := w_iret mC_133 d133_43 rfl
theorem d134_0 : decode cX11_put 0 = .ok (.aload_n 0, 1) := by decide +kernel
theorem k134_0 {d x : Nat} {l1 l2 l3 l4 l5 : Option PV} {st : List PV} {M : Mem} {Q : Option PV → Mem → Prop} : WP d 134 0 [some (vr x), l1, l2, l3, l4, l5] (st) M Q = WP d 134 1 [some (vr x), l1, l2, l3, l4, l5] (vr x :: st) M Q := w1 mC_134 d134_0 rfl rfl
theorem d134_1 : decode cX11_put 1 = .ok (.iload_n 1, 1) := by decide +kernel
theorem k134_1 {d : Nat} {x : Int32} {l0 l2 l3 l4 l5 : Option PV} {st : List PV} {M : Mem} {Q : Option PV → Mem → Prop} : WP d 134 1 [l0, some (vi x), l2, l3, l4, l5] (st) M Q = WP d 134 2 [l0, some (vi x), l2, l3, l4, l5] (vi x :: st) M Q := w1 mC_134 d134_1 rfl rfl
theorem d134_2 : decode cX11_put 2 = .ok (.iload_n 2, 1) := by decide +kernel
theorem k134_2 {d : Nat} {x : Int32} {l0 l1 l3 l4 l5 : Option PV} {st : List PV} {M : Mem} {Q : Option PV → Mem → Prop} : WP d 134 2 [l0, l1, some (vi x), l3, l4, l5] (st) M Q = WP d 134 3 [l0, l1, some (vi x), l3, l4, l5] (vi x :: st) M Q := w1 mC_134 d134_2 rfl rfl
theorem d134_3 : decode cX11_put 3 = .ok (.invokevirtual 370, 3) := by decide +kernel
theorem k134_3 {d : Nat} {l0 l1 l2 l3 l4 l5 : Option PV} {st : List PV} {M : Mem} {Q : Option PV → Mem → Prop} {a0 a1 : Int32} {r : Nat} (hl : szL st ≤ 8) (hk : mK M r = 11) : WP (d + 1) 134 3 [l0, l1, l2, l3, l4, l5] (vi a1 :: vi a0 :: vr r :: st) M Q = WP d 136 0 [some (vr r), some (vi a0), some (vi a1)] [] M (fun v M' => WP (d + 1) 134 6 [l0, l1, l2, l3, l4, l5] (psh v st) M' Q) := w_callV mC_134 d134_3 (ci := 11) rfl rfl rfl (Nat.le_of_ble_eq_true rfl) (by decide) rfl hl hk
theorem d134_6 : decode cX11_put 6 = .ok (.istore 5, 2) := by decide +kernel
theorem k134_6 {d : Nat} {l0 l1 l2 l3 l4 l5 : Option PV} {st : List PV} {M : Mem} {Q : Option PV → Mem → Prop} {x : Int32} : WP d 134 6 [l0, l1, l2, l3, l4, l5] (vi x :: st) M Q = WP d 134 8 [l0, l1, l2, l3, l4, some (vi x)] (st) M Q := w1 mC_134 d134_6 rfl rfl
theorem d134_8 : decode cX11_put 8 = .ok (.iload 5, 2) := by decide +kernel
theorem k134_8 {d : Nat} {x : Int32} {l0 l1 l2 l3 l4 : Option PV} {st : List PV} {M : Mem} {Q : Option PV → Mem → Prop} : WP d 134 8 [l0, l1, l2, l3, l4, some (vi x)] (st) M Q = WP d 134 10 [l0, l1, l2, l3, l4, some (vi x)] (vi x :: st) M Q := w1 mC_134 d134_8 rfl rfl
theorem d134_10 : decode cX11_put 10 = .ok (.ifCond .eq 6, 3) := by decide +kernel
theorem k134_10 {d : Nat} {l0 l1 l2 l3 l4 l5 : Option PV} {st : List PV} {M : Mem} {Q : Option PV → Mem → Prop} {x : Int32} : WP d 134 10 [l0, l1, l2, l3, l4, l5] (vi x :: st) M Q = (if x = 0 then WP d 134 16 [l0, l1, l2, l3, l4, l5] (st) M Q else WP d 134 13 [l0, l1, l2, l3, l4, l5] (st) M Q) := w_if_eq mC_134 d134_10 (by decide)
theorem d134_13 : decode cX11_put 13 = .ok (.iload 5, 2) := by decide +kernel
theorem k134_13 {d : Nat} {x : Int32} {l0 l1 l2 l3 l4 : Option PV} {st : List PV} {M : Mem} {Q : Option PV → Mem → Prop} : WP d 134 13 [l0, l1, l2, l3, l4, some (vi x)] (st) M Q = WP d 134 15 [l0, l1, l2, l3, l4, some (vi x)] (vi x :: st) M Q := w1 mC_134 d134_13 rfl rfl
theorem d134_15 : decode cX11_put 15 = .ok (.ireturn, 1) := by decide +kernel
theorem k134_15 {d : Nat} {l0 l1 l2 l3 l4 l5 : Option PV} {M : Mem} {Q : Option PV → Mem → Prop} {x : Int32} : WP d 134 15 [l0, l1, l2, l3, l4, l5] ([vi x]) M Q = Q (some (vi x)) M := w_iret mC_134 d134_15 rfl
theorem d134_16 : decode cX11_put 16 = .ok (.aload_n 0, 1) := by decide +kernel
theorem k134_16 {d x : Nat} {l1 l2 l3 l4 l5 : Option PV} {st : List PV} {M : Mem} {Q : Option PV → Mem → Prop} : WP d 134 16 [some (vr x), l1, l2, l3, l4, l5] (st) M Q = WP d 134 17 [some (vr x), l1, l2, l3, l4, l5] (vr x :: st) M Q := w1 mC_134 d134_16 rfl rfl
theorem d134_17 : decode cX11_put 17 = .ok (.getfield 58, 3) := by decide +kernel
theorem k134_17 {d : Nat} {l0 l1 l2 l3 l4 l5 : Option PV} {st : List PV} {M : Mem} {Q : Option PV → Mem → Prop} {r : Nat} (hk : mK M r = 11) : WP d 134 17 [l0, l1, l2, l3, l4, l5] (vr r :: st) M Q = WP d 134 20 [l0, l1, l2, l3, l4, l5] (vr (mR M r 16) :: st) M Q := w_getr mC_134 d134_17 fE_11_58 rfl (by rw [hk]; rfl)
theorem d134_20 : decode cX11_put 20 = .ok (.iload_n 1, 1) := by decide +kernel
theorem k134_20 {d : Nat} {x : Int32} {l0 l2 l3 l4 l5 : Option PV} {st : List PV} {M : Mem} {Q : Option PV → Mem → Prop} : WP d 134 20 [l0, some (vi x), l2, l3, l4, l5] (st) M Q = WP d 134 21 [l0, some (vi x), l2, l3, l4, l5] (vi x :: st) M Q := w1 mC_134 d134_20 rfl rfl
theorem d134_21 : decode cX11_put 21 = .ok (.aaload, 1) := by decide +kernel
theorem k134_21 {d : Nat} {l0 l1 l2 l3 l4 l5 : Option PV} {st : List PV} {M : Mem} {Q : Option PV → Mem → Prop} {r : Nat} {j : Int32} (hk : mK M r = 15 ∨ mK M r = 16 ∨ mK M r = 17) (hj : inb j (mN M r)) (h1 : r ≠ 1) : WP d 134 21 [l0, l1, l2, l3, l4, l5] (vi j :: vr r :: st) M Q = WP d 134 22 [l0, l1, l2, l3, l4, l5] (vr (mR M r (ix j)) :: st) M Q := w_aald mC_134 d134_21 hk hj h1
theorem d134_22 : decode cX11_put 22 = .ok (.iload_n 2, 1) := by decide +kernel
theorem k134_22 {d : Nat} {x : Int32} {l0 l1 l3 l4 l5 : Option PV} {st : List PV} {M : Mem} {Q : Option PV → Mem → Prop} : WP d 134 22 [l0, l1, some (vi x), l3, l4, l5] (st) M Q = WP d 134 23 [l0, l1, some (vi x), l3, l4, l5] (vi x :: st) M Q := w1 mC_134 d134_22 rfl rfl
theorem d134_23 : decode cX11_put 23 = .ok (.lload_n 3, 1) := by decide +kernel
theorem k134_23 {d : Nat} {x : Int64} {l0 l1 l2 l5 : Option PV} {st : List PV} {M : Mem} {Q : Option PV → Mem → Prop} : WP d 134 23 [l0, l1, l2, some (vl x), none, l5] (st) M Q = WP d 134 24 [l0, l1, l2, some (vl x), none, l5] (vl x :: st) M Q := w1 mC_134 d134_23 rfl rfl
theorem d134_24 : decode cX11_put 24 = .ok (.invokevirtual 373, 3) := by decide +kernel
theorem k134_24 {d : Nat} {l0 l1 l2 l3 l4 l5 : Option PV} {st : List PV} {M : Mem} {Q : Option PV → Mem → Prop} {a0 : Int32} {a1 : Int64} {r : Nat} (hl : szL st ≤ 8) (hk : mK M r = 9) : WP (d + 1) 134 24 [l0, l1, l2, l3, l4, l5] (vl a1 :: vi a0 :: vr r :: st) M Q = WP d 66 0 [some (vr r), some (vi a0), some (vl a1), none] [] M (fun v M' => WP (d + 1) 134 27 [l0, l1, l2, l3, l4, l5] (psh v st) M' Q) := w_callV mC_134 d134_24 (ci := 9) rfl rfl rfl (Nat.le_of_ble_eq_true rfl) (by decide) rfl hl hk
theorem d134_27 : decode cX11_put 27 = .ok (.iconst 1, 1) := by decide +kernel
theorem k134_27 {d : Nat} {l0 l1 l2 l3 l4 l5 : Option PV} {st : List PV} {M : Mem} {Q : Option PV → Mem → Prop} : WP d 134 27 [l0, l1, l2, l3, l4, l5] (st) M Q = WP d 134 28 [l0, l1, l2, l3, l4, l5] (vi 1 :: st) M Q := w_iconst mC_134 d134_27 (by decide)
theorem d134_28 : decode cX11_put 28 = .ok (.ireturn, 1) := by decide +kernel
theorem k134_28 {d : Nat} {l0 l1 l2 l3 l4 l5 : Option PV} {M : Mem} {Q : Option PV → Mem → Prop} {x : Int32} : WP d 134 28 [l0, l1, l2, l3, l4, l5] ([vi x]) M Q = Q (some (vi x)) M := w_iret mC_134 d134_28 rfl
theorem d135_0 : decode cX11_element 0 = .ok (.aload_n 0, 1) := by decide +kernel
theorem k135_0 {d x : Nat} {l1 l2 : Option PV} {st : List PV} {M : Mem} {Q : Option PV → Mem → Prop} : WP d 135 0 [some (vr x), l1, l2] (st) M Q = WP d 135 1 [some (vr x), l1, l2] (vr x :: st) M Q := w1 mC_135 d135_0 rfl rfl
theorem d135_1 : decode cX11_element 1 = .ok (.iload_n 1, 1) := by decide +kernel
theorem k135_1 {d : Nat} {x : Int32} {l0 l2 : Option PV} {st : List PV} {M : Mem} {Q : Option PV → Mem → Prop} : WP d 135 1 [l0, some (vi x), l2] (st) M Q = WP d 135 2 [l0, some (vi x), l2] (vi x :: st) M Q := w1 mC_135 d135_1 rfl rfl
theorem d135_2 : decode cX11_element 2 = .ok (.iload_n 2, 1) := by decide +kernel
theorem k135_2 {d : Nat} {x : Int32} {l0 l1 : Option PV} {st : List PV} {M : Mem} {Q : Option PV → Mem → Prop} : WP d 135 2 [l0, l1, some (vi x)] (st) M Q = WP d 135 3 [l0, l1, some (vi x)] (vi x :: st) M Q := w1 mC_135 d135_2 rfl rfl
theorem d135_3 : decode cX11_element 3 = .ok (.invokevirtual 370, 3) := by decide +kernel
theorem k135_3 {d : Nat} {l0 l1 l2 : Option PV} {st : List PV} {M : Mem} {Q : Option PV → Mem → Prop} {a0 a1 : Int32} {r : Nat} (hl : szL st ≤ 8) (hk : mK M r = 11) : WP (d + 1) 135 3 [l0, l1, l2] (vi a1 :: vi a0 :: vr r :: st) M Q = WP d 136 0 [some (vr r), some (vi a0), some (vi a1)] [] M (fun v M' => WP (d + 1) 135 6 [l0, l1, l2] (psh v st) M' Q) := w_callV mC_135 d135_3 (ci := 11) rfl rfl rfl (Nat.le_of_ble_eq_true rfl) (by decide) rfl hl hk
theorem d135_6 : decode cX11_element 6 = .ok (.ifCond .eq 9, 3) := by decide +kernel
theorem k135_6 {d : Nat} {l0 l1 l2 : Option PV} {st : List PV} {M : Mem} {Q : Option PV → Mem → Prop} {x : Int32} : WP d 135 6 [l0, l1, l2] (vi x :: st) M Q = (if x = 0 then WP d 135 15 [l0, l1, l2] (st) M Q else WP d 135 9 [l0, l1, l2] (st) M Q) := w_if_eq mC_135 d135_6 (by decide)
theorem d135_9 : decode cX11_element 9 = .ok (.ldc2_w 378, 3) := by decide +kernel
theorem k135_9 {d : Nat} {l0 l1 l2 : Option PV} {st : List PV} {M : Mem} {Q : Option PV → Mem → Prop} : WP d 135 9 [l0, l1, l2] (st) M Q = WP d 135 12 [l0, l1, l2] (vl (-9223372036854775808) :: st) M Q := w_ldl mC_135 d135_9 rfl
theorem d135_12 : decode cX11_element 12 = .ok (.goto 13, 3) := by decide +kernel
theorem k135_12 {d : Nat} {l0 l1 l2 : Option PV} {st : List PV} {M : Mem} {Q : Option PV → Mem → Prop} : WP d 135 12 [l0, l1, l2] (st) M Q = WP d 135 25 [l0, l1, l2] (st) M Q := w_goto mC_135 d135_12 (by decide)
theorem d135_15 : decode cX11_element 15 = .ok (.aload_n 0, 1) := by decide +kernel
theorem k135_15 {d x : Nat} {l1 l2 : Option PV} {st : List PV} {M : Mem} {Q : Option PV → Mem → Prop} : WP d 135 15 [some (vr x), l1, l2] (st) M Q = WP d 135 16 [some (vr x), l1, l2] (vr x :: st) M Q := w1 mC_135 d135_15 rfl rfl
theorem d135_16 : decode cX11_element 16 = .ok (.getfield 58, 3) := by decide +kernel
theorem k135_16 {d : Nat} {l0 l1 l2 : Option PV} {st : List PV} {M : Mem} {Q : Option PV → Mem → Prop} {r : Nat} (hk : mK M r = 11) : WP d 135 16 [l0, l1, l2] (vr r :: st) M Q = WP d 135 19 [l0, l1, l2] (vr (mR M r 16) :: st) M Q := w_getr mC_135 d135_16 fE_11_58 rfl (by rw [hk]; rfl)
theorem d135_19 : decode cX11_element 19 = .ok (.iload_n 1, 1) := by decide +kernel
theorem k135_19 {d : Nat} {x : Int32} {l0 l2 : Option PV} {st : List PV} {M : Mem} {Q : Option PV → Mem → Prop} : WP d 135 19 [l0, some (vi x), l2] (st) M Q = WP d 135 20 [l0, some (vi x), l2] (vi x :: st) M Q := w1 mC_135 d135_19 rfl rfl
theorem d135_20 : decode cX11_element 20 = .ok (.aaload, 1) := by decide +kernel
theorem k135_20 {d : Nat} {l0 l1 l2 : Option PV} {st : List PV} {M : Mem} {Q : Option PV → Mem → Prop} {r : Nat} {j : Int32} (hk : mK M r = 15 ∨ mK M r = 16 ∨ mK M r = 17) (hj : inb j (mN M r)) (h1 : r ≠ 1) : WP d 135 20 [l0, l1, l2] (vi j :: vr r :: st) M Q = WP d 135 21 [l0, l1, l2] (vr (mR M r (ix j)) :: st) M Q := w_aald mC_135 d135_20 hk hj h1
theorem d135_21 : decode cX11_element 21 = .ok (.iload_n 2, 1) := by decide +kernel
theorem k135_21 {d : Nat} {x : Int32} {l0 l1 : Option PV} {st : List PV} {M : Mem} {Q : Option PV → Mem → Prop} : WP d 135 21 [l0, l1, some (vi x)] (st) M Q = WP d 135 22 [l0, l1, some (vi x)] (vi x :: st) M Q := w1 mC_135 d135_21 rfl rfl
theorem d135_22 : decode cX11_element 22 = .ok (.invokevirtual 97, 3) := by decide +kernel
theorem k135_22 {d : Nat} {l0 l1 l2 : Option PV} {st : List PV} {M : Mem} {Q : Option PV → Mem → Prop} {a0 : Int32} {r : Nat} (hl : szL st ≤ 8) (hk : mK M r = 9) : WP (d + 1) 135 22 [l0, l1, l2] (vi a0 :: vr r :: st) M Q = WP d 65 0 [some (vr r), some (vi a0)] [] M (fun v M' => WP (d + 1) 135 25 [l0, l1, l2] (psh v st) M' Q) := w_callV mC_135 d135_22 (ci := 9) rfl rfl rfl (Nat.le_of_ble_eq_true rfl) (by decide) rfl hl hk
theorem d135_25 : decode cX11_element 25 = .ok (.lreturn, 1) := by decide +kernel
theorem k135_25 {d : Nat} {l0 l1 l2 : Option PV} {M : Mem} {Q : Option PV → Mem → Prop} {x : Int64} : WP d 135 25 [l0, l1, l2] ([vl x]) M Q = Q (some (vl x)) M := w_lret mC_135 d135_25 rfl
theorem d136_0 : decode cX11_elementRefusal 0 = .ok (.iload_n 1, 1) := by decide +kernel
theorem k136_0 {d : Nat} {x : Int32} {l0 l2 : Option PV} {st : List PV} {M : Mem} {Q : Option PV → Mem → Prop} : WP d 136 0 [l0, some (vi x), l2] (st) M Q = WP d 136 1 [l0, some (vi x), l2] (vi x :: st) M Q := w1 mC_136 d136_0 rfl rfl
theorem d136_1 : decode cX11_elementRefusal 1 = .ok (.invokestatic 75, 3) := by decide +kernel
theorem k136_1 {d : Nat} {l0 l1 l2 : Option PV} {st : List PV} {M : Mem} {Q : Option PV → Mem → Prop} {a0 : Int32} (hl : szL st ≤ 8) : WP (d + 1) 136 1 [l0, l1, l2] (vi a0 :: st) M Q = WP d 142 0 [some (vi a0)] [] M (fun v M' => WP (d + 1) 136 4 [l0, l1, l2] (psh v st) M' Q) := w_callS mC_136 d136_1 rfl rfl (Nat.le_of_ble_eq_true rfl) (by decide) rfl hl
theorem d136_4 : decode cX11_elementRefusal 4 = .ok (.ifCond .ne 5, 3) := by decide +kernel
theorem k136_4 {d : Nat} {l0 l1 l2 : Option PV} {st : List PV} {M : Mem} {Q : Option PV → Mem → Prop} {x : Int32} : WP d 136 4 [l0, l1, l2] (vi x :: st) M Q = (if x = 0 then WP d 136 7 [l0, l1, l2] (st) M Q else WP d 136 9 [l0, l1, l2] (st) M Q) := w_if_ne mC_136 d136_4 (by decide)
theorem d136_7 : decode cX11_elementRefusal 7 = .ok (.iconst (-1), 1) := by decide +kernel
theorem k136_7 {d : Nat} {l0 l1 l2 : Option PV} {st : List PV} {M : Mem} {Q : Option PV → Mem → Prop} : WP d 136 7 [l0, l1, l2] (st) M Q = WP d 136 8 [l0, l1, l2] (vi (-1) :: st) M Q := w_iconst mC_136 d136_7 (by decide)
theorem d136_8 : decode cX11_elementRefusal 8 = .ok (.ireturn, 1) := by decide +kernel
theorem k136_8 {d : Nat} {l0 l1 l2 : Option PV} {M : Mem} {Q : Option PV → Mem → Prop} {x : Int32} : WP d 136 8 [l0, l1, l2] ([vi x]) M Q = Q (some (vi x)) M := w_iret mC_136 d136_8 rfl
theorem d136_9 : decode cX11_elementRefusal 9 = .ok (.aload_n 0, 1) := by decide +kernel
theorem k136_9 {d x : Nat} {l1 l2 : Option PV} {st : List PV} {M : Mem} {Q : Option PV → Mem → Prop} : WP d 136 9 [some (vr x), l1, l2] (st) M Q = WP d 136 10 [some (vr x), l1, l2] (vr x :: st) M Q := w1 mC_136 d136_9 rfl rfl
theorem d136_10 : decode cX11_elementRefusal 10 = .ok (.getfield 58, 3) := by decide +kernel
theorem k136_10 {d : Nat} {l0 l1 l2 : Option PV} {st : List PV} {M : Mem} {Q : Option PV → Mem → Prop} {r : Nat} (hk : mK M r = 11) : WP d 136 10 [l0, l1, l2] (vr r :: st) M Q = WP d 136 13 [l0, l1, l2] (vr (mR M r 16) :: st) M Q := w_getr mC_136 d136_10 fE_11_58 rfl (by rw [hk]; rfl)
theorem d136_13 : decode cX11_elementRefusal 13 = .ok (.iload_n 1, 1) := by decide +kernel
theorem k136_13 {d : Nat} {x : Int32} {l0 l2 : Option PV} {st : List PV} {M : Mem} {Q : Option PV → Mem → Prop} : WP d 136 13 [l0, some (vi x), l2] (st) M Q = WP d 136 14 [l0, some (vi x), l2] (vi x :: st) M Q := w1 mC_136 d136_13 rfl rfl
theorem d136_14 : decode cX11_elementRefusal 14 = .ok (.aaload, 1) := by decide +kernel
theorem k136_14 {d : Nat} {l0 l1 l2 : Option PV} {st : List PV} {M : Mem} {Q : Option PV → Mem → Prop} {r : Nat} {j : Int32} (hk : mK M r = 15 ∨ mK M r = 16 ∨ mK M r = 17) (hj : inb j (mN M r)) (h1 : r ≠ 1) : WP d 136 14 [l0, l1, l2] (vi j :: vr r :: st) M Q = WP d 136 15 [l0, l1, l2] (vr (mR M r (ix j)) :: st) M Q := w_aald mC_136 d136_14 hk hj h1
theorem d136_15 : decode cX11_elementRefusal 15 = .ok (.invokevirtual 83, 3) := by decide +kernel
theorem k136_15 {d : Nat} {l0 l1 l2 : Option PV} {st : List PV} {M : Mem} {Q : Option PV → Mem → Prop} {r : Nat} (hl : szL st ≤ 8) (hk : mK M r = 9) : WP (d + 1) 136 15 [l0, l1, l2] (vr r :: st) M Q = WP d 59 0 [some (vr r)] [] M (fun v M' => WP (d + 1) 136 18 [l0, l1, l2] (psh v st) M' Q) := w_callV mC_136 d136_15 (ci := 9) rfl rfl rfl (Nat.le_of_ble_eq_true rfl) (by decide) rfl hl hk
theorem d136_18 : decode cX11_elementRefusal 18 = .ok (.ifCond .eq 6, 3) := by decide +kernel
theorem k136_18 {d : Nat} {l0 l1 l2 : Option PV} {st : List PV} {M : Mem} {Q : Option PV → Mem → Prop} {x : Int32} : WP d 136 18 [l0, l1, l2] (vi x :: st) M Q = (if x = 0 then WP d 136 24 [l0, l1, l2] (st) M Q else WP d 136 21 [l0, l1, l2] (st) M Q) := w_if_eq mC_136 d136_18 (by decide)
theorem d136_21 : decode cX11_elementRefusal 21 = .ok (.bipush (-11), 2) := by decide +kernel
theorem k136_21 {d : Nat} {l0 l1 l2 : Option PV} {st : List PV} {M : Mem} {Q : Option PV → Mem → Prop} : WP d 136 21 [l0, l1, l2] (st) M Q = WP d 136 23 [l0, l1, l2] (vi (-11) :: st) M Q := w_bipush mC_136 d136_21 (by decide)
theorem d136_23 : decode cX11_elementRefusal 23 = .ok (.ireturn, 1) := by decide +kernel
theorem k136_23 {d : Nat} {l0 l1 l2 : Option PV} {M : Mem} {Q : Option PV → Mem → Prop} {x : Int32} : WP d 136 23 [l0, l1, l2] ([vi x]) M Q = Q (some (vi x)) M := w_iret mC_136 d136_23 rfl
theorem d136_24 : decode cX11_elementRefusal 24 = .ok (.aload_n 0, 1) := by decide +kernel
theorem k136_24 {d x : Nat} {l1 l2 : Option PV} {st : List PV} {M : Mem} {Q : Option PV → Mem → Prop} : WP d 136 24 [some (vr x), l1, l2] (st) M Q = WP d 136 25 [some (vr x), l1, l2] (vr x :: st) M Q := w1 mC_136 d136_24 rfl rfl
theorem d136_25 : decode cX11_elementRefusal 25 = .ok (.getfield 58, 3) := by decide +kernel
theorem k136_25 {d : Nat} {l0 l1 l2 : Option PV} {st : List PV} {M : Mem} {Q : Option PV → Mem → Prop} {r : Nat} (hk : mK M r = 11) : WP d 136 25 [l0, l1, l2] (vr r :: st) M Q = WP d 136 28 [l0, l1, l2] (vr (mR M r 16) :: st) M Q := w_getr mC_136 d136_25 fE_11_58 rfl (by rw [hk]; rfl)
theorem d136_28 : decode cX11_elementRefusal 28 = .ok (.iload_n 1, 1) := by decide +kernel
theorem k136_28 {d : Nat} {x : Int32} {l0 l2 : Option PV} {st : List PV} {M : Mem} {Q : Option PV → Mem → Prop} : WP d 136 28 [l0, some (vi x), l2] (st) M Q = WP d 136 29 [l0, some (vi x), l2] (vi x :: st) M Q := w1 mC_136 d136_28 rfl rfl
theorem d136_29 : decode cX11_elementRefusal 29 = .ok (.aaload, 1) := by decide +kernel
theorem k136_29 {d : Nat} {l0 l1 l2 : Option PV} {st : List PV} {M : Mem} {Q : Option PV → Mem → Prop} {r : Nat} {j : Int32} (hk : mK M r = 15 ∨ mK M r = 16 ∨ mK M r = 17) (hj : inb j (mN M r)) (h1 : r ≠ 1) : WP d 136 29 [l0, l1, l2] (vi j :: vr r :: st) M Q = WP d 136 30 [l0, l1, l2] (vr (mR M r (ix j)) :: st) M Q := w_aald mC_136 d136_29 hk hj h1
theorem d136_30 : decode cX11_elementRefusal 30 = .ok (.invokevirtual 380, 3) := by decide +kernel
theorem k136_30 {d : Nat} {l0 l1 l2 : Option PV} {st : List PV} {M : Mem} {Q : Option PV → Mem → Prop} {r : Nat} (hl : szL st ≤ 8) (hk : mK M r = 9) : WP (d + 1) 136 30 [l0, l1, l2] (vr r :: st) M Q = WP d 60 0 [some (vr r)] [] M (fun v M' => WP (d + 1) 136 33 [l0, l1, l2] (psh v st) M' Q) := w_callV mC_136 d136_30 (ci := 9) rfl rfl rfl (Nat.le_of_ble_eq_true rfl) (by decide) rfl hl hk
theorem d136_33 : decode cX11_elementRefusal 33 = .ok (.ifCond .ne 6, 3) := by decide +kernel
theorem k136_33 {d : Nat} {l0 l1 l2 : Option PV} {st : List PV} {M : Mem} {Q : Option PV → Mem → Prop} {x : Int32} : WP d 136 33 [l0, l1, l2] (vi x :: st) M Q = (if x = 0 then WP d 136 36 [l0, l1, l2] (st) M Q else WP d 136 39 [l0, l1, l2] (st) M Q) := w_if_ne mC_136 d136_33 (by decide)
theorem d136_36 : decode cX11_elementRefusal 36 = .ok (.bipush (-12), 2) := by decide +kernel
theorem k136_36 {d : Nat} {l0 l1 l2 : Option PV} {st : List PV} {M : Mem} {Q : Option PV → Mem → Prop} : WP d 136 36 [l0, l1, l2] (st) M Q = WP d 136 38 [l0, l1, l2] (vi (-12) :: st) M Q := w_bipush mC_136 d136_36 (by decide)
theorem d136_38 : decode cX11_elementRefusal 38 = .ok (.ireturn, 1) := by decide +kernel
theorem k136_38 {d : Nat} {l0 l1 l2 : Option PV} {M : Mem} {Q : Option PV → Mem → Prop} {x : Int32} : WP d 136 38 [l0, l1, l2] ([vi x]) M Q = Q (some (vi x)) M := w_iret mC_136 d136_38 rfl
theorem d136_39 : decode cX11_elementRefusal 39 = .ok (.aload_n 0, 1) := by decide +kernel
theorem k136_39 {d x : Nat} {l1 l2 : Option PV} {st : List PV} {M : Mem} {Q : Option PV → Mem → Prop} : WP d 136 39 [some (vr x), l1, l2] (st) M Q = WP d 136 40 [some (vr x), l1, l2] (vr x :: st) M Q := w1 mC_136 d136_39 rfl rfl
theorem d136_40 : decode cX11_elementRefusal 40 = .ok (.getfield 58, 3) := by decide +kernel
theorem k136_40 {d : Nat} {l0 l1 l2 : Option PV} {st : List PV} {M : Mem} {Q : Option PV → Mem → Prop} {r : Nat} (hk : mK M r = 11) : WP d 136 40 [l0, l1, l2] (vr r :: st) M Q = WP d 136 43 [l0, l1, l2] (vr (mR M r 16) :: st) M Q := w_getr mC_136 d136_40 fE_11_58 rfl (by rw [hk]; rfl)
theorem d136_43 : decode cX11_elementRefusal 43 = .ok (.iload_n 1, 1) := by decide +kernel
theorem k136_43 {d : Nat} {x : Int32} {l0 l2 : Option PV} {st : List PV} {M : Mem} {Q : Option PV → Mem → Prop} : WP d 136 43 [l0, some (vi x), l2] (st) M Q = WP d 136 44 [l0, some (vi x), l2] (vi x :: st) M Q := w1 mC_136 d136_43 rfl rfl
theorem d136_44 : decode cX11_elementRefusal 44 = .ok (.aaload, 1) := by decide +kernel
theorem k136_44 {d : Nat} {l0 l1 l2 : Option PV} {st : List PV} {M : Mem} {Q : Option PV → Mem → Prop} {r : Nat} {j : Int32} (hk : mK M r = 15 ∨ mK M r = 16 ∨ mK M r = 17) (hj : inb j (mN M r)) (h1 : r ≠ 1) : WP d 136 44 [l0, l1, l2] (vi j :: vr r :: st) M Q = WP d 136 45 [l0, l1, l2] (vr (mR M r (ix j)) :: st) M Q := w_aald mC_136 d136_44 hk hj h1
theorem d136_45 : decode cX11_elementRefusal 45 = .ok (.iload_n 2, 1) := by decide +kernel
theorem k136_45 {d : Nat} {x : Int32} {l0 l1 : Option PV} {st : List PV} {M : Mem} {Q : Option PV → Mem → Prop} : WP d 136 45 [l0, l1, some (vi x)] (st) M Q = WP d 136 46 [l0, l1, some (vi x)] (vi x :: st) M Q := w1 mC_136 d136_45 rfl rfl
theorem d136_46 : decode cX11_elementRefusal 46 = .ok (.iconst 1, 1) := by decide +kernel
theorem k136_46 {d : Nat} {l0 l1 l2 : Option PV} {st : List PV} {M : Mem} {Q : Option PV → Mem → Prop} : WP d 136 46 [l0, l1, l2] (st) M Q = WP d 136 47 [l0, l1, l2] (vi 1 :: st) M Q := w_iconst mC_136 d136_46 (by decide)
theorem d136_47 : decode cX11_elementRefusal 47 = .ok (.invokevirtual 90, 3) := by decide +kernel
theorem k136_47 {d : Nat} {l0 l1 l2 : Option PV} {st : List PV} {M : Mem} {Q : Option PV → Mem → Prop} {a0 a1 : Int32} {r : Nat} (hl : szL st ≤ 8) (hk : mK M r = 9) : WP (d + 1) 136 47 [l0, l1, l2] (vi a1 :: vi a0 :: vr r :: st) M Q = WP d 64 0 [some (vr r), some (vi a0), some (vi a1)] [] M (fun v M' => WP (d + 1) 136 50 [l0, l1, l2] (psh v st) M' Q) := w_callV mC_136 d136_47 (ci := 9) rfl rfl rfl (Nat.le_of_ble_eq_true rfl) (by decide) rfl hl hk
theorem d136_50 : decode cX11_elementRefusal 50 = .ok (.ifCond .eq 7, 3) := by decide +kernel
theorem k136_50 {d : Nat} {l0 l1 l2 : Option PV} {st : List PV} {M : Mem} {Q : Option PV → Mem → Prop} {x : Int32} : WP d 136 50 [l0, l1, l2] (vi x :: st) M Q = (if x = 0 then WP d 136 57 [l0, l1, l2] (st) M Q else WP d 136 53 [l0, l1, l2] (st) M Q) := w_if_eq mC_136 d136_50 (by decide)
theorem d136_53 : decode cX11_elementRefusal 53 = .ok (.iconst 0, 1) := by decide +kernel
theorem k136_53 {d : Nat} {l0 l1 l2 : Option PV} {st : List PV} {M : Mem} {Q : Option PV → Mem → Prop} : WP d 136 53 [l0, l1, l2] (st) M Q = WP d 136 54 [l0, l1, l2] (vi 0 :: st) M Q := w_iconst mC_136 d136_53 (by decide)
theorem d136_54 : decode cX11_elementRefusal 54 = .ok (.goto 5, 3) := by decide +kernel
theorem k136_54 {d : Nat} {l0 l1 l2 : Option PV} {st : List PV} {M : Mem} {Q : Option PV → Mem → Prop} : WP d 136 54 [l0, l1, l2] (st) M Q = WP d 136 59 [l0, l1, l2] (st) M Q := w_goto mC_136 d136_54 (by decide)
theorem d136_57 : decode cX11_elementRefusal 57 = .ok (.bipush (-13), 2) := by decide +kernel
theorem k136_57 {d : Nat} {l0 l1 l2 : Option PV} {st : List PV} {M : Mem} {Q : Option PV → Mem → Prop} : WP d 136 57 [l0, l1, l2] (st) M Q = WP d 136 59 [l0, l1, l2] (vi (-13) :: st) M Q := w_bipush mC_136 d136_57 (by decide)
theorem d136_59 : decode cX11_elementRefusal 59 = .ok (.ireturn, 1) := by decide +kernel
theorem k136_59 {d : Nat} {l0 l1 l2 : Option PV} {M : Mem} {Q : Option PV → Mem → Prop} {x : Int32} : WP d 136 59 [l0, l1, l2] ([vi x]) M Q = Q (some (vi x)) M := w_iret mC_136 d136_59 rfl
theorem d137_0 : decode cX11_shift 0 = .ok (.iload_n 1, 1) := by decide +kernel
theorem k137_0 {d : Nat} {x : Int32} {l0 l2 l3 l4 l5 l6 l7 : Option PV} {st : List PV} {M : Mem} {Q : Option PV → Mem → Prop} : WP d 137 0 [l0, some (vi x), l2, l3, l4, l5, l6, l7] (st) M Q = WP d 137 1 [l0, some (vi x), l2, l3, l4, l5, l6, l7] (vi x :: st) M Q := w1 mC_137 d137_0 rfl rfl
theorem d137_1 : decode cX11_shift 1 = .ok (.invokestatic 75, 3) := by decide +kernel
theorem k137_1 {d : Nat} {l0 l1 l2 l3 l4 l5 l6 l7 : Option PV} {st : List PV} {M : Mem} {Q : Option PV → Mem → Prop} {a0 : Int32} (hl : szL st ≤ 8) : WP (d + 1) 137 1 [l0, l1, l2, l3, l4, l5, l6, l7] (vi a0 :: st) M Q = WP d 142 0 [some (vi a0)] [] M (fun v M' => WP (d + 1) 137 4 [l0, l1, l2, l3, l4, l5, l6, l7] (psh v st) M' Q) := w_callS mC_137 d137_1 rfl rfl (Nat.le_of_ble_eq_true rfl) (by decide) rfl hl
theorem d137_4 : decode cX11_shift 4 = .ok (.ifCond .eq 10, 3) := by decide +kernel
theorem k137_4 {d : Nat} {l0 l1 l2 l3 l4 l5 l6 l7 : Option PV} {st : List PV} {M : Mem} {Q : Option PV → Mem → Prop} {x : Int32} : WP d 137 4 [l0, l1, l2, l3, l4, l5, l6, l7] (vi x :: st) M Q = (if x = 0 then WP d 137 14 [l0, l1, l2, l3, l4, l5, l6, l7] (st) M Q else WP d 137 7 [l0, l1, l2, l3, l4, l5, l6, l7] (st) M Q) := w_if_eq mC_137 d137_4 (by decide)
theorem d137_7 : decode cX11_shift 7 = .ok (.iload_n 3, 1) := by decide +kernel
theorem k137_7 {d : Nat} {x : Int32} {l0 l1 l2 l4 l5 l6 l7 : Option PV} {st : List PV} {M : Mem} {Q : Option PV → Mem → Prop} : WP d 137 7 [l0, l1, l2, some (vi x), l4, l5, l6, l7] (st) M Q = WP d 137 8 [l0, l1, l2, some (vi x), l4, l5, l6, l7] (vi x :: st) M Q := w1 mC_137 d137_7 rfl rfl
theorem d137_8 : decode cX11_shift 8 = .ok (.invokestatic 75, 3) := by decide +kernel
theorem k137_8 {d : Nat} {l0 l1 l2 l3 l4 l5 l6 l7 : Option PV} {st : List PV} {M : Mem} {Q : Option PV → Mem → Prop} {a0 : Int32} (hl : szL st ≤ 8) : WP (d + 1) 137 8 [l0, l1, l2, l3, l4, l5, l6, l7] (vi a0 :: st) M Q = WP d 142 0 [some (vi a0)] [] M (fun v M' => WP (d + 1) 137 11 [l0, l1, l2, l3, l4, l5, l6, l7] (psh v st) M' Q) := w_callS mC_137 d137_8 rfl rfl (Nat.le_of_ble_eq_true rfl) (by decide) rfl hl
theorem d137_11 : decode cX11_shift 11 = .ok (.ifCond .ne 5, 3) := by decide +kernel
theorem k137_11 {d : Nat} {l0 l1 l2 l3 l4 l5 l6 l7 : Option PV} {st : List PV} {M : Mem} {Q : Option PV → Mem → Prop} {x : Int32} : WP d 137 11 [l0, l1, l2, l3, l4, l5, l6, l7] (vi x :: st) M Q = (if x = 0 then WP d 137 14 [l0, l1, l2, l3, l4, l5, l6, l7] (st) M Q else WP d 137 16 [l0, l1, l2, l3, l4, l5, l6, l7] (st) M Q) := w_if_ne mC_137 d137_11 (by decide)
theorem d137_14 : decode cX11_shift 14 = .ok (.iconst (-1), 1) := by decide +kernel
theorem k137_14 {d : Nat} {l0 l1 l2 l3 l4 l5 l6 l7 : Option PV} {st : List PV} {M : Mem} {Q : Option PV → Mem → Prop} : WP d 137 14 [l0, l1, l2, l3, l4, l5, l6, l7] (st) M Q = WP d 137 15 [l0, l1, l2, l3, l4, l5, l6, l7] (vi (-1) :: st) M Q := w_iconst mC_137 d137_14 (by decide)
theorem d137_15 : decode cX11_shift 15 = .ok (.ireturn, 1) := by decide +kernel
theorem k137_15 {d : Nat} {l0 l1 l2 l3 l4 l5 l6 l7 : Option PV} {M : Mem} {Q : Option PV → Mem → Prop} {x : Int32} : WP d 137 15 [l0, l1, l2, l3, l4, l5, l6, l7] ([vi x]) M Q = Q (some (vi x)) M := w_iret mC_137 d137_15 rfl
theorem d137_16 : decode cX11_shift 16 = .ok (.aload_n 0, 1) := by decide +kernel
theorem k137_16 {d x : Nat} {l1 l2 l3 l4 l5 l6 l7 : Option PV} {st : List PV} {M : Mem} {Q : Option PV → Mem → Prop} : WP d 137 16 [some (vr x), l1, l2, l3, l4, l5, l6, l7] (st) M Q = WP d 137 17 [some (vr x), l1, l2, l3, l4, l5, l6, l7] (vr x :: st) M Q := w1 mC_137 d137_16 rfl rfl
theorem d137_17 : decode cX11_shift 17 = .ok (.getfield 58, 3) := by decide +kernel
theorem k137_17 {d : Nat} {l0 l1 l2 l3 l4 l5 l6 l7 : Option PV} {st : List PV} {M : Mem} {Q : Option PV → Mem → Prop} {r : Nat} (hk : mK M r = 11) : WP d 137 17 [l0, l1, l2, l3, l4, l5, l6, l7] (vr r :: st) M Q = WP d 137 20 [l0, l1, l2, l3, l4, l5, l6, l7] (vr (mR M r 16) :: st) M Q := w_getr mC_137 d137_17 fE_11_58 rfl (by rw [hk]; rfl)
theorem d137_20 : decode cX11_shift 20 = .ok (.iload_n 1, 1) := by decide +kernel
theorem k137_20 {d : Nat} {x : Int32} {l0 l2 l3 l4 l5 l6 l7 : Option PV} {st : List PV} {M : Mem} {Q : Option PV → Mem → Prop} : WP d 137 20 [l0, some (vi x), l2, l3, l4, l5, l6, l7] (st) M Q = WP d 137 21 [l0, some (vi x), l2, l3, l4, l5, l6, l7] (vi x :: st) M Q := w1 mC_137 d137_20 rfl rfl
theorem d137_21 : decode cX11_shift 21 = .ok (.aaload, 1) := by decide +kernel
theorem k137_21 {d : Nat} {l0 l1 l2 l3 l4 l5 l6 l7 : Option PV} {st : List PV} {M : Mem} {Q : Option PV → Mem → Prop} {r : Nat} {j : Int32} (hk : mK M r = 15 ∨ mK M r = 16 ∨ mK M r = 17) (hj : inb j (mN M r)) (h1 : r ≠ 1) : WP d 137 21 [l0, l1, l2, l3, l4, l5, l6, l7] (vi j :: vr r :: st) M Q = WP d 137 22 [l0, l1, l2, l3, l4, l5, l6, l7] (vr (mR M r (ix j)) :: st) M Q := w_aald mC_137 d137_21 hk hj h1
theorem d137_22 : decode cX11_shift 22 = .ok (.astore 6, 2) := by decide +kernel
theorem k137_22 {d : Nat} {l0 l1 l2 l3 l4 l5 l6 l7 : Option PV} {st : List PV} {M : Mem} {Q : Option PV → Mem → Prop} {x : Nat} : WP d 137 22 [l0, l1, l2, l3, l4, l5, l6, l7] (vr x :: st) M Q = WP d 137 24 [l0, l1, l2, l3, l4, l5, some (vr x), l7] (st) M Q := w1 mC_137 d137_22 rfl rfl
theorem d137_24 : decode cX11_shift 24 = .ok (.aload_n 0, 1) := by decide +kernel
theorem k137_24 {d x : Nat} {l1 l2 l3 l4 l5 l6 l7 : Option PV} {st : List PV} {M : Mem} {Q : Option PV → Mem → Prop} : WP d 137 24 [some (vr x), l1, l2, l3, l4, l5, l6, l7] (st) M Q = WP d 137 25 [some (vr x), l1, l2, l3, l4, l5, l6, l7] (vr x :: st) M Q := w1 mC_137 d137_24 rfl rfl
theorem d137_25 : decode cX11_shift 25 = .ok (.getfield 58, 3) := by decide +kernel
theorem k137_25 {d : Nat} {l0 l1 l2 l3 l4 l5 l6 l7 : Option PV} {st : List PV} {M : Mem} {Q : Option PV → Mem → Prop} {r : Nat} (hk : mK M r = 11) : WP d 137 25 [l0, l1, l2, l3, l4, l5, l6, l7] (vr r :: st) M Q = WP d 137 28 [l0, l1, l2, l3, l4, l5, l6, l7] (vr (mR M r 16) :: st) M Q := w_getr mC_137 d137_25 fE_11_58 rfl (by rw [hk]; rfl)
theorem d137_28 : decode cX11_shift 28 = .ok (.iload_n 3, 1) := by decide +kernel
theorem k137_28 {d : Nat} {x : Int32} {l0 l1 l2 l4 l5 l6 l7 : Option PV} {st : List PV} {M : Mem} {Q : Option PV → Mem → Prop} : WP d 137 28 [l0, l1, l2, some (vi x), l4, l5, l6, l7] (st) M Q = WP d 137 29 [l0, l1, l2, some (vi x), l4, l5, l6, l7] (vi x :: st) M Q := w1 mC_137 d137_28 rfl rfl
theorem d137_29 : decode cX11_shift 29 = .ok (.aaload, 1) := by decide +kernel
theorem k137_29 {d : Nat} {l0 l1 l2 l3 l4 l5 l6 l7 : Option PV} {st : List PV} {M : Mem} {Q : Option PV → Mem → Prop} {r : Nat} {j : Int32} (hk : mK M r = 15 ∨ mK M r = 16 ∨ mK M r = 17) (hj : inb j (mN M r)) (h1 : r ≠ 1) : WP d 137 29 [l0, l1, l2, l3, l4, l5, l6, l7] (vi j :: vr r :: st) M Q = WP d 137 30 [l0, l1, l2, l3, l4, l5, l6, l7] (vr (mR M r (ix j)) :: st) M Q := w_aald mC_137 d137_29 hk hj h1
theorem d137_30 : decode cX11_shift 30 = .ok (.astore 7, 2) := by decide +kernel
theorem k137_30 {d : Nat} {l0 l1 l2 l3 l4 l5 l6 l7 : Option PV} {st : List PV} {M : Mem} {Q : Option PV → Mem → Prop} {x : Nat} : WP d 137 30 [l0, l1, l2, l3, l4, l5, l6, l7] (vr x :: st) M Q = WP d 137 32 [l0, l1, l2, l3, l4, l5, l6, some (vr x)] (st) M Q := w1 mC_137 d137_30 rfl rfl
theorem d137_32 : decode cX11_shift 32 = .ok (.aload 6, 2) := by decide +kernel
theorem k137_32 {d x : Nat} {l0 l1 l2 l3 l4 l5 l7 : Option PV} {st : List PV} {M : Mem} {Q : Option PV → Mem → Prop} : WP d 137 32 [l0, l1, l2, l3, l4, l5, some (vr x), l7] (st) M Q = WP d 137 34 [l0, l1, l2, l3, l4, l5, some (vr x), l7] (vr x :: st) M Q := w1 mC_137 d137_32 rfl rfl
theorem d137_34 : decode cX11_shift 34 = .ok (.invokevirtual 83, 3) := by decide +kernel
theorem k137_34 {d : Nat} {l0 l1 l2 l3 l4 l5 l6 l7 : Option PV} {st : List PV} {M : Mem} {Q : Option PV → Mem → Prop} {r : Nat} (hl : szL st ≤ 8) (hk : mK M r = 9) : WP (d + 1) 137 34 [l0, l1, l2, l3, l4, l5, l6, l7] (vr r :: st) M Q = WP d 59 0 [some (vr r)] [] M (fun v M' => WP (d + 1) 137 37 [l0, l1, l2, l3, l4, l5, l6, l7] (psh v st) M' Q) := w_callV mC_137 d137_34 (ci := 9) rfl rfl rfl (Nat.le_of_ble_eq_true rfl) (by decide) rfl hl hk
theorem d137_37 : decode cX11_shift 37 = .ok (.ifCond .ne 11, 3) := by decide +kernel
theorem k137_37 {d : Nat} {l0 l1 l2 l3 l4 l5 l6 l7 : Option PV} {st : List PV} {M : Mem} {Q : Option PV → Mem → Prop} {x : Int32} : WP d 137 37 [l0, l1, l2, l3, l4, l5, l6, l7] (vi x :: st) M Q = (if x = 0 then WP d 137 40 [l0, l1, l2, l3, l4, l5, l6, l7] (st) M Q else WP d 137 48 [l0, l1, l2, l3, l4, l5, l6, l7] (st) M Q) := w_if_ne mC_137 d137_37 (by decide)
theorem d137_40 : decode cX11_shift 40 = .ok (.aload 7, 2) := by decide +kernel
theorem k137_40 {d x : Nat} {l0 l1 l2 l3 l4 l5 l6 : Option PV} {st : List PV} {M : Mem} {Q : Option PV → Mem → Prop} : WP d 137 40 [l0, l1, l2, l3, l4, l5, l6, some (vr x)] (st) M Q = WP d 137 42 [l0, l1, l2, l3, l4, l5, l6, some (vr x)] (vr x :: st) M Q := w1 mC_137 d137_40 rfl rfl
theorem d137_42 : decode cX11_shift 42 = .ok (.invokevirtual 83, 3) := by decide +kernel
theorem k137_42 {d : Nat} {l0 l1 l2 l3 l4 l5 l6 l7 : Option PV} {st : List PV} {M : Mem} {Q : Option PV → Mem → Prop} {r : Nat} (hl : szL st ≤ 8) (hk : mK M r = 9) : WP (d + 1) 137 42 [l0, l1, l2, l3, l4, l5, l6, l7] (vr r :: st) M Q = WP d 59 0 [some (vr r)] [] M (fun v M' => WP (d + 1) 137 45 [l0, l1, l2, l3, l4, l5, l6, l7] (psh v st) M' Q) := w_callV mC_137 d137_42 (ci := 9) rfl rfl rfl (Nat.le_of_ble_eq_true rfl) (by decide) rfl hl hk
theorem d137_45 : decode cX11_shift 45 = .ok (.ifCond .eq 6, 3) := by decide +kernel
theorem k137_45 {d : Nat} {l0 l1 l2 l3 l4 l5 l6 l7 : Option PV} {st : List PV} {M : Mem} {Q : Option PV → Mem → Prop} {x : Int32} : WP d 137 45 [l0, l1, l2, l3, l4, l5, l6, l7] (vi x :: st) M Q = (if x = 0 then WP d 137 51 [l0, l1, l2, l3, l4, l5, l6, l7] (st) M Q else WP d 137 48 [l0, l1, l2, l3, l4, l5, l6, l7] (st) M Q) := w_if_eq mC_137 d137_45 (by decide)
theorem d137_48 : decode cX11_shift 48 = .ok (.bipush (-11), 2) := by decide +kernel
theorem k137_48 {d : Nat} {l0 l1 l2 l3 l4 l5 l6 l7 : Option PV} {st : List PV} {M : Mem} {Q : Option PV → Mem → Prop} : WP d 137 48 [l0, l1, l2, l3, l4, l5, l6, l7] (st) M Q = WP d 137 50 [l0, l1, l2, l3, l4, l5, l6, l7] (vi (-11) :: st) M Q := w_bipush mC_137 d137_48 (by decide)
theorem d137_50 : decode cX11_shift 50 = .ok (.ireturn, 1) := by decide +kernel
theorem k137_50 {d : Nat} {l0 l1 l2 l3 l4 l5 l6 l7 : Option PV} {M : Mem} {Q : Option PV → Mem → Prop} {x : Int32} : WP d 137 50 [l0, l1, l2, l3, l4, l5, l6, l7] ([vi x]) M Q = Q (some (vi x)) M := w_iret mC_137 d137_50 rfl
theorem d137_51 : decode cX11_shift 51 = .ok (.aload 6, 2) := by decide +kernel
theorem k137_51 {d x : Nat} {l0 l1 l2 l3 l4 l5 l7 : Option PV} {st : List PV} {M : Mem} {Q : Option PV → Mem → Prop} : WP d 137 51 [l0, l1, l2, l3, l4, l5, some (vr x), l7] (st) M Q = WP d 137 53 [l0, l1, l2, l3, l4, l5, some (vr x), l7] (vr x :: st) M Q := w1 mC_137 d137_51 rfl rfl
theorem d137_53 : decode cX11_shift 53 = .ok (.invokevirtual 380, 3) := by decide +kernel
theorem k137_53 {d : Nat} {l0 l1 l2 l3 l4 l5 l6 l7 : Option PV} {st : List PV} {M : Mem} {Q : Option PV → Mem → Prop} {r : Nat} (hl : szL st ≤ 8) (hk : mK M r = 9) : WP (d + 1) 137 53 [l0, l1, l2, l3, l4, l5, l6, l7] (vr r :: st) M Q = WP d 60 0 [some (vr r)] [] M (fun v M' => WP (d + 1) 137 56 [l0, l1, l2, l3, l4, l5, l6, l7] (psh v st) M' Q) := w_callV mC_137 d137_53 (ci := 9) rfl rfl rfl (Nat.le_of_ble_eq_true rfl) (by decide) rfl hl hk
theorem d137_56 : decode cX11_shift 56 = .ok (.ifCond .eq 24, 3) := by decide +kernel
theorem k137_56 {d : Nat} {l0 l1 l2 l3 l4 l5 l6 l7 : Option PV} {st : List PV} {M : Mem} {Q : Option PV → Mem → Prop} {x : Int32} : WP d 137 56 [l0, l1, l2, l3, l4, l5, l6, l7] (vi x :: st) M Q = (if x = 0 then WP d 137 80 [l0, l1, l2, l3, l4, l5, l6, l7] (st) M Q else WP d 137 59 [l0, l1, l2, l3, l4, l5, l6, l7] (st) M Q) := w_if_eq mC_137 d137_56 (by decide)
theorem d137_59 : decode cX11_shift 59 = .ok (.aload 7, 2) := by decide +kernel
theorem k137_59 {d x : Nat} {l0 l1 l2 l3 l4 l5 l6 : Option PV} {st : List PV} {M : Mem} {Q : Option PV → Mem → Prop} : WP d 137 59 [l0, l1, l2, l3, l4, l5, l6, some (vr x)] (st) M Q = WP d 137 61 [l0, l1, l2, l3, l4, l5, l6, some (vr x)] (vr x :: st) M Q := w1 mC_137 d137_59 rfl rfl
theorem d137_61 : decode cX11_shift 61 = .ok (.invokevirtual 380, 3) := by decide +kernel
theorem k137_61 {d : Nat} {l0 l1 l2 l3 l4 l5 l6 l7 : Option PV} {st : List PV} {M : Mem} {Q : Option PV → Mem → Prop} {r : Nat} (hl : szL st ≤ 8) (hk : mK M r = 9) : WP (d + 1) 137 61 [l0, l1, l2, l3, l4, l5, l6, l7] (vr r :: st) M Q = WP d 60 0 [some (vr r)] [] M (fun v M' => WP (d + 1) 137 64 [l0, l1, l2, l3, l4, l5, l6, l7] (psh v st) M' Q) := w_callV mC_137 d137_61 (ci := 9) rfl rfl rfl (Nat.le_of_ble_eq_true rfl) (by decide) rfl hl hk
theorem d137_64 : decode cX11_shift 64 = .ok (.ifCond .eq 16, 3) := by decide +kernel
theorem k137_64 {d : Nat} {l0 l1 l2 l3 l4 l5 l6 l7 : Option PV} {st : List PV} {M : Mem} {Q : Option PV → Mem → Prop} {x : Int32} : WP d 137 64 [l0, l1, l2, l3, l4, l5, l6, l7] (vi x :: st) M Q = (if x = 0 then WP d 137 80 [l0, l1, l2, l3, l4, l5, l6, l7] (st) M Q else WP d 137 67 [l0, l1, l2, l3, l4, l5, l6, l7] (st) M Q) := w_if_eq mC_137 d137_64 (by decide)
theorem d137_67 : decode cX11_shift 67 = .ok (.aload 6, 2) := by decide +kernel
theorem k137_67 {d x : Nat} {l0 l1 l2 l3 l4 l5 l7 : Option PV} {st : List PV} {M : Mem} {Q : Option PV → Mem → Prop} : WP d 137 67 [l0, l1, l2, l3, l4, l5, some (vr x), l7] (st) M Q = WP d 137 69 [l0, l1, l2, l3, l4, l5, some (vr x), l7] (vr x :: st) M Q := w1 mC_137 d137_67 rfl rfl
theorem d137_69 : decode cX11_shift 69 = .ok (.getfield 383, 3) := by decide +kernel
theorem k137_69 {d : Nat} {l0 l1 l2 l3 l4 l5 l6 l7 : Option PV} {st : List PV} {M : Mem} {Q : Option PV → Mem → Prop} {r : Nat} (hk : mK M r = 9) : WP d 137 69 [l0, l1, l2, l3, l4, l5, l6, l7] (vr r :: st) M Q = WP d 137 72 [l0, l1, l2, l3, l4, l5, l6, l7] (vi (mI M r 2) :: st) M Q := w_get mC_137 d137_69 fE_11_383 rfl (by rw [hk]; rfl)
theorem d137_72 : decode cX11_shift 72 = .ok (.aload 7, 2) := by decide +kernel
theorem k137_72 {d x : Nat} {l0 l1 l2 l3 l4 l5 l6 : Option PV} {st : List PV} {M : Mem} {Q : Option PV → Mem → Prop} : WP d 137 72 [l0, l1, l2, l3, l4, l5, l6, some (vr x)] (st) M Q = WP d 137 74 [l0, l1, l2, l3, l4, l5, l6, some (vr x)] (vr x :: st) M Q := w1 mC_137 d137_72 rfl rfl
theorem d137_74 : decode cX11_shift 74 = .ok (.getfield 383, 3) := by decide +kernel
theorem k137_74 {d : Nat} {l0 l1 l2 l3 l4 l5 l6 l7 : Option PV} {st : List PV} {M : Mem} {Q : Option PV → Mem → Prop} {r : Nat} (hk : mK M r = 9) : WP d 137 74 [l0, l1, l2, l3, l4, l5, l6, l7] (vr r :: st) M Q = WP d 137 77 [l0, l1, l2, l3, l4, l5, l6, l7] (vi (mI M r 2) :: st) M Q := w_get mC_137 d137_74 fE_11_383 rfl (by rw [hk]; rfl)
theorem d137_77 : decode cX11_shift 77 = .ok (.if_icmp .eq 6, 3) := by decide +kernel
theorem k137_77 {d : Nat} {l0 l1 l2 l3 l4 l5 l6 l7 : Option PV} {st : List PV} {M : Mem} {Q : Option PV → Mem → Prop} {x y : Int32} : WP d 137 77 [l0, l1, l2, l3, l4, l5, l6, l7] (vi y :: vi x :: st) M Q = (if x = y then WP d 137 83 [l0, l1, l2, l3, l4, l5, l6, l7] (st) M Q else WP d 137 80 [l0, l1, l2, l3, l4, l5, l6, l7] (st) M Q) := w_ic_eq mC_137 d137_77 (by decide)
theorem d137_80 : decode cX11_shift 80 = .ok (.bipush (-12), 2) := by decide +kernel
theorem k137_80 {d : Nat} {l0 l1 l2 l3 l4 l5 l6 l7 : Option PV} {st : List PV} {M : Mem} {Q : Option PV → Mem → Prop} : WP d 137 80 [l0, l1, l2, l3, l4, l5, l6, l7] (st) M Q = WP d 137 82 [l0, l1, l2, l3, l4, l5, l6, l7] (vi (-12) :: st) M Q := w_bipush mC_137 d137_80 (by decide)
theorem d137_82 : decode cX11_shift 82 = .ok (.ireturn, 1) := by decide +kernel
theorem k137_82 {d : Nat} {l0 l1 l2 l3 l4 l5 l6 l7 : Option PV} {M : Mem} {Q : Option PV → Mem → Prop} {x : Int32} : WP d 137 82 [l0, l1, l2, l3, l4, l5, l6, l7] ([vi x]) M Q = Q (some (vi x)) M := w_iret mC_137 d137_82 rfl
theorem d137_83 : decode cX11_shift 83 = .ok (.aload 6, 2) := by decide +kernel
theorem k137_83 {d x : Nat} {l0 l1 l2 l3 l4 l5 l7 : Option PV} {st : List PV} {M : Mem} {Q : Option PV → Mem → Prop} : WP d 137 83 [l0, l1, l2, l3, l4, l5, some (vr x), l7] (st) M Q = WP d 137 85 [l0, l1, l2, l3, l4, l5, some (vr x), l7] (vr x :: st) M Q := w1 mC_137 d137_83 rfl rfl
theorem d137_85 : decode cX11_shift 85 = .ok (.iload_n 2, 1) := by decide +kernel
theorem k137_85 {d : Nat} {x : Int32} {l0 l1 l3 l4 l5 l6 l7 : Option PV} {st : List PV} {M : Mem} {Q : Option PV → Mem → Prop} : WP d 137 85 [l0, l1, some (vi x), l3, l4, l5, l6, l7] (st) M Q = WP d 137 86 [l0, l1, some (vi x), l3, l4, l5, l6, l7] (vi x :: st) M Q := w1 mC_137 d137_85 rfl rfl
theorem d137_86 : decode cX11_shift 86 = .ok (.iload 5, 2) := by decide +kernel
theorem k137_86 {d : Nat} {x : Int32} {l0 l1 l2 l3 l4 l6 l7 : Option PV} {st : List PV} {M : Mem} {Q : Option PV → Mem → Prop} : WP d 137 86 [l0, l1, l2, l3, l4, some (vi x), l6, l7] (st) M Q = WP d 137 88 [l0, l1, l2, l3, l4, some (vi x), l6, l7] (vi x :: st) M Q := w1 mC_137 d137_86 rfl rfl
theorem d137_88 : decode cX11_shift 88 = .ok (.invokevirtual 90, 3) := by decide +kernel
theorem k137_88 {d : Nat} {l0 l1 l2 l3 l4 l5 l6 l7 : Option PV} {st : List PV} {M : Mem} {Q : Option PV → Mem → Prop} {a0 a1 : Int32} {r : Nat} (hl : szL st ≤ 8) (hk : mK M r = 9) : WP (d + 1) 137 88 [l0, l1, l2, l3, l4, l5, l6, l7] (vi a1 :: vi a0 :: vr r :: st) M Q = WP d 64 0 [some (vr r), some (vi a0), some (vi a1)] [] M (fun v M' => WP (d + 1) 137 91 [l0, l1, l2, l3, l4, l5, l6, l7] (psh v st) M' Q) := w_callV mC_137 d137_88 (ci := 9) rfl rfl rfl (Nat.le_of_ble_eq_true rfl) (by decide) rfl hl hk
theorem d137_91 : decode cX11_shift 91 = .ok (.ifCond .eq 15, 3) := by decide +kernel
theorem k137_91 {d : Nat} {l0 l1 l2 l3 l4 l5 l6 l7 : Option PV} {st : List PV} {M : Mem} {Q : Option PV → Mem → Prop} {x : Int32} : WP d 137 91 [l0, l1, l2, l3, l4, l5, l6, l7] (vi x :: st) M Q = (if x = 0 then WP d 137 106 [l0, l1, l2, l3, l4, l5, l6, l7] (st) M Q else WP d 137 94 [l0, l1, l2, l3, l4, l5, l6, l7] (st) M Q) := w_if_eq mC_137 d137_91 (by decide)
theorem d137_94 : decode cX11_shift 94 = .ok (.aload 7, 2) := by decide +kernel
theorem k137_94 {d x : Nat} {l0 l1 l2 l3 l4 l5 l6 : Option PV} {st : List PV} {M : Mem} {Q : Option PV → Mem → Prop} : WP d 137 94 [l0, l1, l2, l3, l4, l5, l6, some (vr x)] (st) M Q = WP d 137 96 [l0, l1, l2, l3, l4, l5, l6, some (vr x)] (vr x :: st) M Q := w1 mC_137 d137_94 rfl rfl
theorem d137_96 : decode cX11_shift 96 = .ok (.iload 4, 2) := by decide +kernel
theorem k137_96 {d : Nat} {x : Int32} {l0 l1 l2 l3 l5 l6 l7 : Option PV} {st : List PV} {M : Mem} {Q : Option PV → Mem → Prop} : WP d 137 96 [l0, l1, l2, l3, some (vi x), l5, l6, l7] (st) M Q = WP d 137 98 [l0, l1, l2, l3, some (vi x), l5, l6, l7] (vi x :: st) M Q := w1 mC_137 d137_96 rfl rfl
theorem d137_98 : decode cX11_shift 98 = .ok (.iload 5, 2) := by decide +kernel
theorem k137_98 {d : Nat} {x : Int32} {l0 l1 l2 l3 l4 l6 l7 : Option PV} {st : List PV} {M : Mem} {Q : Option PV → Mem → Prop} : WP d 137 98 [l0, l1, l2, l3, l4, some (vi x), l6, l7] (st) M Q = WP d 137 100 [l0, l1, l2, l3, l4, some (vi x), l6, l7] (vi x :: st) M Q := w1 mC_137 d137_98 rfl rfl
theorem d137_100 : decode cX11_shift 100 = .ok (.invokevirtual 90, 3) := by decide +kernel
theorem k137_100 {d : Nat} {l0 l1 l2 l3 l4 l5 l6 l7 : Option PV} {st : List PV} {M : Mem} {Q : Option PV → Mem → Prop} {a0 a1 : Int32} {r : Nat} (hl : szL st ≤ 8) (hk : mK M r = 9) : WP (d + 1) 137 100 [l0, l1, l2, l3, l4, l5, l6, l7] (vi a1 :: vi a0 :: vr r :: st) M Q = WP d 64 0 [some (vr r), some (vi a0), some (vi a1)] [] M (fun v M' => WP (d + 1) 137 103 [l0, l1, l2, l3, l4, l5, l6, l7] (psh v st) M' Q) := w_callV mC_137 d137_100 (ci := 9) rfl rfl rfl (Nat.le_of_ble_eq_true rfl) (by decide) rfl hl hk
theorem d137_103 : decode cX11_shift 103 = .ok (.ifCond .ne 6, 3) := by decide +kernel
theorem k137_103 {d : Nat} {l0 l1 l2 l3 l4 l5 l6 l7 : Option PV} {st : List PV} {M : Mem} {Q : Option PV → Mem → Prop} {x : Int32} : WP d 137 103 [l0, l1, l2, l3, l4, l5, l6, l7] (vi x :: st) M Q = (if x = 0 then WP d 137 106 [l0, l1, l2, l3, l4, l5, l6, l7] (st) M Q else WP d 137 109 [l0, l1, l2, l3, l4, l5, l6, l7] (st) M Q) := w_if_ne mC_137 d137_103 (by decide)
theorem d137_106 : decode cX11_shift 106 = .ok (.bipush (-13), 2) := by decide +kernel
theorem k137_106 {d : Nat} {l0 l1 l2 l3 l4 l5 l6 l7 : Option PV} {st : List PV} {M : Mem} {Q : Option PV → Mem → Prop} : WP d 137 106 [l0, l1, l2, l3, l4, l5, l6, l7] (st) M Q = WP d 137 108 [l0, l1, l2, l3, l4, l5, l6, l7] (vi (-13) :: st) M Q := w_bipush mC_137 d137_106 (by decide)
theorem d137_108 : decode cX11_shift 108 = .ok (.ireturn, 1) := by decide +kernel
theorem k137_108 {d : Nat} {l0 l1 l2 l3 l4 l5 l6 l7 : Option PV} {M : Mem} {Q : Option PV → Mem → Prop} {x : Int32} : WP d 137 108 [l0, l1, l2, l3, l4, l5, l6, l7] ([vi x]) M Q = Q (some (vi x)) M := w_iret mC_137 d137_108 rfl
theorem d137_109 : decode cX11_shift 109 = .ok (.aload 6, 2) := by decide +kernel
theorem k137_109 {d x : Nat} {l0 l1 l2 l3 l4 l5 l7 : Option PV} {st : List PV} {M : Mem} {Q : Option PV → Mem → Prop} : WP d 137 109 [l0, l1, l2, l3, l4, l5, some (vr x), l7] (st) M Q = WP d 137 111 [l0, l1, l2, l3, l4, l5, some (vr x), l7] (vr x :: st) M Q := w1 mC_137 d137_109 rfl rfl
theorem d137_111 : decode cX11_shift 111 = .ok (.getfield 386, 3) := by decide +kernel
theorem k137_111 {d : Nat} {l0 l1 l2 l3 l4 l5 l6 l7 : Option PV} {st : List PV} {M : Mem} {Q : Option PV → Mem → Prop} {r : Nat} (hk : mK M r = 9) : WP d 137 111 [l0, l1, l2, l3, l4, l5, l6, l7] (vr r :: st) M Q = WP d 137 114 [l0, l1, l2, l3, l4, l5, l6, l7] (vr (mR M r 0) :: st) M Q := w_getr mC_137 d137_111 fE_11_386 rfl (by rw [hk]; rfl)
theorem d137_114 : decode cX11_shift 114 = .ok (.iload_n 2, 1) := by decide +kernel
theorem k137_114 {d : Nat} {x : Int32} {l0 l1 l3 l4 l5 l6 l7 : Option PV} {st : List PV} {M : Mem} {Q : Option PV → Mem → Prop} : WP d 137 114 [l0, l1, some (vi x), l3, l4, l5, l6, l7] (st) M Q = WP d 137 115 [l0, l1, some (vi x), l3, l4, l5, l6, l7] (vi x :: st) M Q := w1 mC_137 d137_114 rfl rfl
theorem d137_115 : decode cX11_shift 115 = .ok (.aload 7, 2) := by decide +kernel
theorem k137_115 {d x : Nat} {l0 l1 l2 l3 l4 l5 l6 : Option PV} {st : List PV} {M : Mem} {Q : Option PV → Mem → Prop} : WP d 137 115 [l0, l1, l2, l3, l4, l5, l6, some (vr x)] (st) M Q = WP d 137 117 [l0, l1, l2, l3, l4, l5, l6, some (vr x)] (vr x :: st) M Q := w1 mC_137 d137_115 rfl rfl
theorem d137_117 : decode cX11_shift 117 = .ok (.getfield 386, 3) := by decide +kernel
theorem k137_117 {d : Nat} {l0 l1 l2 l3 l4 l5 l6 l7 : Option PV} {st : List PV} {M : Mem} {Q : Option PV → Mem → Prop} {r : Nat} (hk : mK M r = 9) : WP d 137 117 [l0, l1, l2, l3, l4, l5, l6, l7] (vr r :: st) M Q = WP d 137 120 [l0, l1, l2, l3, l4, l5, l6, l7] (vr (mR M r 0) :: st) M Q := w_getr mC_137 d137_117 fE_11_386 rfl (by rw [hk]; rfl)
theorem d137_120 : decode cX11_shift 120 = .ok (.iload 4, 2) := by decide +kernel
theorem k137_120 {d : Nat} {x : Int32} {l0 l1 l2 l3 l5 l6 l7 : Option PV} {st : List PV} {M : Mem} {Q : Option PV → Mem → Prop} : WP d 137 120 [l0, l1, l2, l3, some (vi x), l5, l6, l7] (st) M Q = WP d 137 122 [l0, l1, l2, l3, some (vi x), l5, l6, l7] (vi x :: st) M Q := w1 mC_137 d137_120 rfl rfl
theorem d137_122 : decode cX11_shift 122 = .ok (.iload 5, 2) := by decide +kernel
theorem k137_122 {d : Nat} {x : Int32} {l0 l1 l2 l3 l4 l6 l7 : Option PV} {st : List PV} {M : Mem} {Q : Option PV → Mem → Prop} : WP d 137 122 [l0, l1, l2, l3, l4, some (vi x), l6, l7] (st) M Q = WP d 137 124 [l0, l1, l2, l3, l4, some (vi x), l6, l7] (vi x :: st) M Q := w1 mC_137 d137_122 rfl rfl
theorem d137_124 : decode cX11_shift 124 = .ok (.invokestatic 314, 3) := by decide +kernel
theorem k137_124 {d : Nat} {l0 l1 l2 l3 l4 l5 l6 l7 : Option PV} {st : List PV} {M : Mem} {Q : Option PV → Mem → Prop} {a b : Nat} {sp dp q : Int32} (hl : szL st ≤ 8) (h1 : ¬ sp < 0 ∧ ¬ dp < 0 ∧ ¬ q < 0 ∧ ix sp + ix q ≤ mN M b ∧ ix dp + ix q ≤ mN M a ∧ a ≠ 1 ∧ b ≠ 1) (hk : mK M a = 13) (hk2 : mK M b = 13) : WP d 137 124 [l0, l1, l2, l3, l4, l5, l6, l7] (vi q :: vi dp :: vr a :: vi sp :: vr b :: st) M Q = WP d 137 127 [l0, l1, l2, l3, l4, l5, l6, l7] (st) (cI M b (ix sp) a (ix dp) (ix q)) Q := w_copyI mC_137 d137_124 rfl rfl rfl hl h1 hk hk2
theorem k137_124l {d : Nat} {l0 l1 l2 l3 l4 l5 l6 l7 : Option PV} {st : List PV} {M : Mem} {Q : Option PV → Mem → Prop} {a b : Nat} {sp dp q : Int32} (hl : szL st ≤ 8) (h1 : ¬ sp < 0 ∧ ¬ dp < 0 ∧ ¬ q < 0 ∧ ix sp + ix q ≤ mN M b ∧ ix dp + ix q ≤ mN M a ∧ a ≠ 1 ∧ b ≠ 1) (hk : mK M a = 14) (hk2 : mK M b = 14) : WP d 137 124 [l0, l1, l2, l3, l4, l5, l6, l7] (vi q :: vi dp :: vr a :: vi sp :: vr b :: st) M Q = WP d 137 127 [l0, l1, l2, l3, l4, l5, l6, l7] (st) (cJ M b (ix sp) a (ix dp) (ix q)) Q := w_copyJ mC_137 d137_124 rfl rfl rfl hl h1 hk hk2
theorem d137_127 : decode cX11_shift 127 = .ok (.iload 5, 2) := by decide +kernel
theorem k137_127 {d : Nat} {x : Int32} {l0 l1 l2 l3 l4 l6 l7 : Option PV} {st : List PV} {M : Mem} {Q : Option PV → Mem → Prop} : WP d 137 127 [l0, l1, l2, l3, l4, some (vi x), l6, l7] (st) M Q = WP d 137 129 [l0, l1, l2, l3, l4, some (vi x), l6, l7] (vi x :: st) M Q := w1 mC_137 d137_127 rfl rfl
theorem d137_129 : decode cX11_shift 129 = .ok (.ireturn, 1) := by decide +kernel
theorem k137_129 {d : Nat} {l0 l1 l2 l3 l4 l5 l6 l7 : Option PV} {M : Mem} {Q : Option PV → Mem → Prop} {x : Int32} : WP d 137 129 [l0, l1, l2, l3, l4, l5, l6, l7] ([vi x]) M Q = Q (some (vi x)) M := w_iret mC_137 d137_129 rfl
theorem d138_0 : decode cX11_taken 0 = .ok (.iload_n 1, 1) := by decide +kernel
theorem k138_0 {d : Nat} {x : Int32} {l0 l2 l3 : Option PV} {st : List PV} {M : Mem} {Q : Option PV → Mem → Prop} : WP d 138 0 [l0, some (vi x), l2, l3] (st) M Q = WP d 138 1 [l0, some (vi x), l2, l3] (vi x :: st) M Q := w1 mC_138 d138_0 rfl rfl
theorem d138_1 : decode cX11_taken 1 = .ok (.invokestatic 75, 3) := by decide +kernel
theorem k138_1 {d : Nat} {l0 l1 l2 l3 : Option PV} {st : List PV} {M : Mem} {Q : Option PV → Mem → Prop} {a0 : Int32} (hl : szL st ≤ 8) : WP (d + 1) 138 1 [l0, l1, l2, l3] (vi a0 :: st) M Q = WP d 142 0 [some (vi a0)] [] M (fun v M' => WP (d + 1) 138 4 [l0, l1, l2, l3] (psh v st) M' Q) := w_callS mC_138 d138_1 rfl rfl (Nat.le_of_ble_eq_true rfl) (by decide) rfl hl
theorem d138_4 : decode cX11_taken 4 = .ok (.ifCond .eq 13, 3) := by decide +kernel
theorem k138_4 {d : Nat} {l0 l1 l2 l3 : Option PV} {st : List PV} {M : Mem} {Q : Option PV → Mem → Prop} {x : Int32} : WP d 138 4 [l0, l1, l2, l3] (vi x :: st) M Q = (if x = 0 then WP d 138 17 [l0, l1, l2, l3] (st) M Q else WP d 138 7 [l0, l1, l2, l3] (st) M Q) := w_if_eq mC_138 d138_4 (by decide)
theorem d138_7 : decode cX11_taken 7 = .ok (.iload_n 2, 1) := by decide +kernel
theorem k138_7 {d : Nat} {x : Int32} {l0 l1 l3 : Option PV} {st : List PV} {M : Mem} {Q : Option PV → Mem → Prop} : WP d 138 7 [l0, l1, some (vi x), l3] (st) M Q = WP d 138 8 [l0, l1, some (vi x), l3] (vi x :: st) M Q := w1 mC_138 d138_7 rfl rfl
theorem d138_8 : decode cX11_taken 8 = .ok (.iconst 0, 1) := by decide +kernel
theorem k138_8 {d : Nat} {l0 l1 l2 l3 : Option PV} {st : List PV} {M : Mem} {Q : Option PV → Mem → Prop} : WP d 138 8 [l0, l1, l2, l3] (st) M Q = WP d 138 9 [l0, l1, l2, l3] (vi 0 :: st) M Q := w_iconst mC_138 d138_8 (by decide)
theorem d138_9 : decode cX11_taken 9 = .ok (.bipush 7, 2) := by decide +kernel
theorem k138_9 {d : Nat} {l0 l1 l2 l3 : Option PV} {st : List PV} {M : Mem} {Q : Option PV → Mem → Prop} : WP d 138 9 [l0, l1, l2, l3] (st) M Q = WP d 138 11 [l0, l1, l2, l3] (vi 7 :: st) M Q := w_bipush mC_138 d138_9 (by decide)
theorem d138_11 : decode cX11_taken 11 = .ok (.invokestatic 79, 3) := by decide +kernel
theorem k138_11 {d : Nat} {l0 l1 l2 l3 : Option PV} {st : List PV} {M : Mem} {Q : Option PV → Mem → Prop} {a0 a1 a2 : Int32} (hl : szL st ≤ 8) : WP (d + 1) 138 11 [l0, l1, l2, l3] (vi a2 :: vi a1 :: vi a0 :: st) M Q = WP d 141 0 [some (vi a0), some (vi a1), some (vi a2)] [] M (fun v M' => WP (d + 1) 138 14 [l0, l1, l2, l3] (psh v st) M' Q) := w_callS mC_138 d138_11 rfl rfl (Nat.le_of_ble_eq_true rfl) (by decide) rfl hl
theorem d138_14 : decode cX11_taken 14 = .ok (.ifCond .ne 5, 3) := by decide +kernel
theorem k138_14 {d : Nat} {l0 l1 l2 l3 : Option PV} {st : List PV} {M : Mem} {Q : Option PV → Mem → Prop} {x : Int32} : WP d 138 14 [l0, l1, l2, l3] (vi x :: st) M Q = (if x = 0 then WP d 138 17 [l0, l1, l2, l3] (st) M Q else WP d 138 19 [l0, l1, l2, l3] (st) M Q) := w_if_ne mC_138 d138_14 (by decide)
theorem d138_17 : decode cX11_taken 17 = .ok (.iconst (-1), 1) := by decide +kernel
theorem k138_17 {d : Nat} {l0 l1 l2 l3 : Option PV} {st : List PV} {M : Mem} {Q : Option PV → Mem → Prop} : WP d 138 17 [l0, l1, l2, l3] (st) M Q = WP d 138 18 [l0, l1, l2, l3] (vi (-1) :: st) M Q := w_iconst mC_138 d138_17 (by decide)
theorem d138_18 : decode cX11_taken 18 = .ok (.ireturn, 1) := by decide +kernel
theorem k138_18 {d : Nat} {l0 l1 l2 l3 : Option PV} {M : Mem} {Q : Option PV → Mem → Prop} {x : Int32} : WP d 138 18 [l0, l1, l2, l3] ([vi x]) M Q = Q (some (vi x)) M := w_iret mC_138 d138_18 rfl
theorem d138_19 : decode cX11_taken 19 = .ok (.aload_n 0, 1) := by decide +kernel
theorem k138_19 {d x : Nat} {l1 l2 l3 : Option PV} {st : List PV} {M : Mem} {Q : Option PV → Mem → Prop} : WP d 138 19 [some (vr x), l1, l2, l3] (st) M Q = WP d 138 20 [some (vr x), l1, l2, l3] (vr x :: st) M Q := w1 mC_138 d138_19 rfl rfl
theorem d138_20 : decode cX11_taken 20 = .ok (.getfield 58, 3) := by decide +kernel
theorem k138_20 {d : Nat} {l0 l1 l2 l3 : Option PV} {st : List PV} {M : Mem} {Q : Option PV → Mem → Prop} {r : Nat} (hk : mK M r = 11) : WP d 138 20 [l0, l1, l2, l3] (vr r :: st) M Q = WP d 138 23 [l0, l1, l2, l3] (vr (mR M r 16) :: st) M Q := w_getr mC_138 d138_20 fE_11_58 rfl (by rw [hk]; rfl)
theorem d138_23 : decode cX11_taken 23 = .ok (.iload_n 1, 1) := by decide +kernel
theorem k138_23 {d : Nat} {x : Int32} {l0 l2 l3 : Option PV} {st : List PV} {M : Mem} {Q : Option PV → Mem → Prop} : WP d 138 23 [l0, some (vi x), l2, l3] (st) M Q = WP d 138 24 [l0, some (vi x), l2, l3] (vi x :: st) M Q := w1 mC_138 d138_23 rfl rfl
theorem d138_24 : decode cX11_taken 24 = .ok (.aaload, 1) := by decide +kernel
theorem k138_24 {d : Nat} {l0 l1 l2 l3 : Option PV} {st : List PV} {M : Mem} {Q : Option PV → Mem → Prop} {r : Nat} {j : Int32} (hk : mK M r = 15 ∨ mK M r = 16 ∨ mK M r = 17) (hj : inb j (mN M r)) (h1 : r ≠ 1) : WP d 138 24 [l0, l1, l2, l3] (vi j :: vr r :: st) M Q = WP d 138 25 [l0, l1, l2, l3] (vr (mR M r (ix j)) :: st) M Q := w_aald mC_138 d138_24 hk hj h1
theorem d138_25 : decode cX11_taken 25 = .ok (.invokevirtual 83, 3) := by decide +kernel
theorem k138_25 {d : Nat} {l0 l1 l2 l3 : Option PV} {st : List PV} {M : Mem} {Q : Option PV → Mem → Prop} {r : Nat} (hl : szL st ≤ 8) (hk : mK M r = 9) : WP (d + 1) 138 25 [l0, l1, l2, l3] (vr r :: st) M Q = WP d 59 0 [some (vr r)] [] M (fun v M' => WP (d + 1) 138 28 [l0, l1, l2, l3] (psh v st) M' Q) := w_callV mC_138 d138_25 (ci := 9) rfl rfl rfl (Nat.le_of_ble_eq_true rfl) (by decide) rfl hl hk
theorem d138_28 : decode cX11_taken 28 = .ok (.ifCond .eq 6, 3) := by decide +kernel
theorem k138_28 {d : Nat} {l0 l1 l2 l3 : Option PV} {st : List PV} {M : Mem} {Q : Option PV → Mem → Prop} {x : Int32} : WP d 138 28 [l0, l1, l2, l3] (vi x :: st) M Q = (if x = 0 then WP d 138 34 [l0, l1, l2, l3] (st) M Q else WP d 138 31 [l0, l1, l2, l3] (st) M Q) := w_if_eq mC_138 d138_28 (by decide)
theorem d138_31 : decode cX11_taken 31 = .ok (.bipush (-11), 2) := by decide +kernel
theorem k138_31 {d : Nat} {l0 l1 l2 l3 : Option PV} {st : List PV} {M : Mem} {Q : Option PV → Mem → Prop} : WP d 138 31 [l0, l1, l2, l3] (st) M Q = WP d 138 33 [l0, l1, l2, l3] (vi (-11) :: st) M Q := w_bipush mC_138 d138_31 (by decide)
theorem d138_33 : decode cX11_taken 33 = .ok (.ireturn, 1) := by decide +kernel
theorem k138_33 {d : Nat} {l0 l1 l2 l3 : Option PV} {M : Mem} {Q : Option PV → Mem → Prop} {x : Int32} : WP d 138 33 [l0, l1, l2, l3] ([vi x]) M Q = Q (some (vi x)) M := w_iret mC_138 d138_33 rfl
theorem d138_34 : decode cX11_taken 34 = .ok (.aload_n 0, 1) := by decide +kernel
theorem k138_34 {d x : Nat} {l1 l2 l3 : Option PV} {st : List PV} {M : Mem} {Q : Option PV → Mem → Prop} : WP d 138 34 [some (vr x), l1, l2, l3] (st) M Q = WP d 138 35 [some (vr x), l1, l2, l3] (vr x :: st) M Q := w1 mC_138 d138_34 rfl rfl
theorem d138_35 : decode cX11_taken 35 = .ok (.getfield 58, 3) := by decide +kernel
theorem k138_35 {d : Nat} {l0 l1 l2 l3 : Option PV} {st : List PV} {M : Mem} {Q : Option PV → Mem → Prop} {r : Nat} (hk : mK M r = 11) : WP d 138 35 [l0, l1, l2, l3] (vr r :: st) M Q = WP d 138 38 [l0, l1, l2, l3] (vr (mR M r 16) :: st) M Q := w_getr mC_138 d138_35 fE_11_58 rfl (by rw [hk]; rfl)
theorem d138_38 : decode cX11_taken 38 = .ok (.iload_n 1, 1) := by decide +kernel
theorem k138_38 {d : Nat} {x : Int32} {l0 l2 l3 : Option PV} {st : List PV} {M : Mem} {Q : Option PV → Mem → Prop} : WP d 138 38 [l0, some (vi x), l2, l3] (st) M Q = WP d 138 39 [l0, some (vi x), l2, l3] (vi x :: st) M Q := w1 mC_138 d138_38 rfl rfl
theorem d138_39 : decode cX11_taken 39 = .ok (.aaload, 1) := by decide +kernel
theorem k138_39 {d : Nat} {l0 l1 l2 l3 : Option PV} {st : List PV} {M : Mem} {Q : Option PV → Mem → Prop} {r : Nat} {j : Int32} (hk : mK M r = 15 ∨ mK M r = 16 ∨ mK M r = 17) (hj : inb j (mN M r)) (h1 : r ≠ 1) : WP d 138 39 [l0, l1, l2, l3] (vi j :: vr r :: st) M Q = WP d 138 40 [l0, l1, l2, l3] (vr (mR M r (ix j)) :: st) M Q := w_aald mC_138 d138_39 hk hj h1
theorem d138_40 : decode cX11_taken 40 = .ok (.getfield 390, 3) := by decide +kernel
theorem k138_40 {d : Nat} {l0 l1 l2 l3 : Option PV} {st : List PV} {M : Mem} {Q : Option PV → Mem → Prop} {r : Nat} (hk : mK M r = 9) : WP d 138 40 [l0, l1, l2, l3] (vr r :: st) M Q = WP d 138 43 [l0, l1, l2, l3] (vr (mR M r 1) :: st) M Q := w_getr mC_138 d138_40 fE_11_390 rfl (by rw [hk]; rfl)
theorem d138_43 : decode cX11_taken 43 = .ok (.astore_n 3, 1) := by decide +kernel
theorem k138_43 {d : Nat} {l0 l1 l2 l3 : Option PV} {st : List PV} {M : Mem} {Q : Option PV → Mem → Prop} {x : Nat} : WP d 138 43 [l0, l1, l2, l3] (vr x :: st) M Q = WP d 138 44 [l0, l1, l2, some (vr x)] (st) M Q := w1 mC_138 d138_43 rfl rfl
theorem d138_44 : decode cX11_taken 44 = .ok (.aload_n 3, 1) := by decide +kernel
theorem k138_44 {d x : Nat} {l0 l1 l2 : Option PV} {st : List PV} {M : Mem} {Q : Option PV → Mem → Prop} : WP d 138 44 [l0, l1, l2, some (vr x)] (st) M Q = WP d 138 45 [l0, l1, l2, some (vr x)] (vr x :: st) M Q := w1 mC_138 d138_44 rfl rfl
theorem d138_45 : decode cX11_taken 45 = .ok (.iload_n 2, 1) := by decide +kernel
theorem k138_45 {d : Nat} {x : Int32} {l0 l1 l3 : Option PV} {st : List PV} {M : Mem} {Q : Option PV → Mem → Prop} : WP d 138 45 [l0, l1, some (vi x), l3] (st) M Q = WP d 138 46 [l0, l1, some (vi x), l3] (vi x :: st) M Q := w1 mC_138 d138_45 rfl rfl
theorem d138_46 : decode cX11_taken 46 = .ok (.invokestatic 394, 3) := by decide +kernel
theorem k138_46 {d : Nat} {l0 l1 l2 l3 : Option PV} {st : List PV} {M : Mem} {Q : Option PV → Mem → Prop} {a1 : Int32} {a0 : Nat} (hl : szL st ≤ 8) : WP (d + 1) 138 46 [l0, l1, l2, l3] (vi a1 :: vr a0 :: st) M Q = WP d 139 0 [some (vr a0), some (vi a1)] [] M (fun v M' => WP (d + 1) 138 49 [l0, l1, l2, l3] (psh v st) M' Q) := w_callS mC_138 d138_46 rfl rfl (Nat.le_of_ble_eq_true rfl) (by decide) rfl hl
theorem d138_49 : decode cX11_taken 49 = .ok (.ifCond .eq 10, 3) := by decide +kernel
theorem k138_49 {d : Nat} {l0 l1 l2 l3 : Option PV} {st : List PV} {M : Mem} {Q : Option PV → Mem → Prop} {x : Int32} : WP d 138 49 [l0, l1, l2, l3] (vi x :: st) M Q = (if x = 0 then WP d 138 59 [l0, l1, l2, l3] (st) M Q else WP d 138 52 [l0, l1, l2, l3] (st) M Q) := w_if_eq mC_138 d138_49 (by decide)
theorem d138_52 : decode cX11_taken 52 = .ok (.aload_n 3, 1) := by decide +kernel
theorem k138_52 {d x : Nat} {l0 l1 l2 : Option PV} {st : List PV} {M : Mem} {Q : Option PV → Mem → Prop} : WP d 138 52 [l0, l1, l2, some (vr x)] (st) M Q = WP d 138 53 [l0, l1, l2, some (vr x)] (vr x :: st) M Q := w1 mC_138 d138_52 rfl rfl
theorem d138_53 : decode cX11_taken 53 = .ok (.getfield 398, 3) := by decide +kernel
theorem k138_53 {d : Nat} {l0 l1 l2 l3 : Option PV} {st : List PV} {M : Mem} {Q : Option PV → Mem → Prop} {r : Nat} (hk : okF 8 (mK M r) = true) : WP d 138 53 [l0, l1, l2, l3] (vr r :: st) M Q = WP d 138 56 [l0, l1, l2, l3] (vi (mI M r 0) :: st) M Q := w_get mC_138 d138_53 fE_11_398 rfl hk
theorem d138_56 : decode cX11_taken 56 = .ok (.goto 5, 3) := by decide +kernel
theorem k138_56 {d : Nat} {l0 l1 l2 l3 : Option PV} {st : List PV} {M : Mem} {Q : Option PV → Mem → Prop} : WP d 138 56 [l0, l1, l2, l3] (st) M Q = WP d 138 61 [l0, l1, l2, l3] (st) M Q := w_goto mC_138 d138_56 (by decide)
theorem d138_59 : decode cX11_taken 59 = .ok (.bipush (-12), 2) := by decide +kernel
theorem k138_59 {d : Nat} {l0 l1 l2 l3 : Option PV} {st : List PV} {M : Mem} {Q : Option PV → Mem → Prop} : WP d 138 59 [l0, l1, l2, l3] (st) M Q = WP d 138 61 [l0, l1, l2, l3] (vi (-12) :: st) M Q := w_bipush mC_138 d138_59 (by decide)
theorem d138_61 : decode cX11_taken 61 = .ok (.ireturn, 1) := by decide +kernel
theorem k138_61 {d : Nat} {l0 l1 l2 l3 : Option PV} {M : Mem} {Q : Option PV → Mem → Prop} {x : Int32} : WP d 138 61 [l0, l1, l2, l3] ([vi x]) M Q = Q (some (vi x)) M := w_iret mC_138 d138_61 rfl
theorem d139_0 : decode cX11_isOfKind 0 = .ok (.iload_n 1, 1) := by decide +kernel
theorem k139_0 {d : Nat} {x : Int32} {l0 : Option PV} {st : List PV} {M : Mem} {Q : Option PV → Mem → Prop} : WP d 139 0 [l0, some (vi x)] (st) M Q = WP d 139 1 [l0, some (vi x)] (vi x :: st) M Q := w1 mC_139 d139_0 rfl rfl
theorem d139_1 : decode cX11_isOfKind 1 = .ok (.tableswitch 78 1 7 #[43, 48, 53, 58, 63, 68, 73], 43) := by decide +kernel
theorem k139_1c1 {d : Nat} {l0 l1 : Option PV} {st : List PV} {M : Mem} {Q : Option PV → Mem → Prop} : WP d 139 1 [l0, l1] (vi 1 :: st) M Q = WP d 139 44 [l0, l1] (st) M Q := w_sw mC_139 d139_1 (by decide +kernel)
theorem k139_1c2 {d : Nat} {l0 l1 : Option PV} {st : List PV} {M : Mem} {Q : Option PV → Mem → Prop} : WP d 139 1 [l0, l1] (vi 2 :: st) M Q = WP d 139 49 [l0, l1] (st) M Q := w_sw mC_139 d139_1 (by decide +kernel)
theorem k139_1c3 {d : Nat} {l0 l1 : Option PV} {st : List PV} {M : Mem} {Q : Option PV → Mem → Prop} : WP d 139 1 [l0, l1] (vi 3 :: st) M Q = WP d 139 54 [l0, l1] (st) M Q := w_sw mC_139 d139_1 (by decide +kernel)
theorem k139_1c4 {d : Nat} {l0 l1 : Option PV} {st : List PV} {M : Mem} {Q : Option PV → Mem → Prop} : WP d 139 1 [l0, l1] (vi 4 :: st) M Q = WP d 139 59 [l0, l1] (st) M Q := w_sw mC_139 d139_1 (by decide +kernel)
theorem k139_1c5 {d : Nat} {l0 l1 : Option PV} {st : List PV} {M : Mem} {Q : Option PV → Mem → Prop} : WP d 139 1 [l0, l1] (vi 5 :: st) M Q = WP d 139 64 [l0, l1] (st) M Q := w_sw mC_139 d139_1 (by decide +kernel)
theorem k139_1c6 {d : Nat} {l0 l1 : Option PV} {st : List PV} {M : Mem} {Q : Option PV → Mem → Prop} : WP d 139 1 [l0, l1] (vi 6 :: st) M Q = WP d 139 69 [l0, l1] (st) M Q := w_sw mC_139 d139_1 (by decide +kernel)
theorem k139_1c7 {d : Nat} {l0 l1 : Option PV} {st : List PV} {M : Mem} {Q : Option PV → Mem → Prop} : WP d 139 1 [l0, l1] (vi 7 :: st) M Q = WP d 139 74 [l0, l1] (st) M Q := w_sw mC_139 d139_1 (by decide +kernel)
theorem k139_1 {d : Nat} {l0 l1 : Option PV} {st : List PV} {M : Mem} {Q : Option PV → Mem → Prop} {x : Int32} (h : x.toInt < 1 ∨ 7 < x.toInt) : WP d 139 1 [l0, l1] (vi x :: st) M Q = WP d 139 79 [l0, l1] (st) M Q := w_swd mC_139 d139_1 (by decide) h
theorem d139_44 : decode cX11_isOfKind 44 = .ok (.aload_n 0, 1) := by decide +kernel
theorem k139_44 {d x : Nat} {l1 : Option PV} {st : List PV} {M : Mem} {Q : Option PV → Mem → Prop} : WP d 139 44 [some (vr x), l1] (st) M Q = WP d 139 45 [some (vr x), l1] (vr x :: st) M Q := w1 mC_139 d139_44 rfl rfl
theorem d139_45 : decode cX11_isOfKind 45 = .ok (.instanceof 327, 3) := by decide +kernel
theorem k139_45n {d : Nat} {l0 l1 : Option PV} {st : List PV} {M : Mem} {Q : Option PV → Mem → Prop} : WP d 139 45 [l0, l1] (vr 0 :: st) M Q = WP d 139 48 [l0, l1] (vi 0 :: st) M Q := w_inst0 mC_139 d139_45 (k := 6) rfl
theorem k139_45 {d : Nat} {l0 l1 : Option PV} {st : List PV} {M : Mem} {Q : Option PV → Mem → Prop} {r : Nat} (h0 : r ≠ 0) (ho : okF 8 (mK M r) = true) : WP d 139 45 [l0, l1] (vr r :: st) M Q = WP d 139 48 [l0, l1] (vi (if subK (mK M r) 6 = true then 1 else 0) :: st) M Q := w_inst mC_139 d139_45 rfl h0 ho
theorem d139_48 : decode cX11_isOfKind 48 = .ok (.ireturn, 1) := by decide +kernel
theorem k139_48 {d : Nat} {l0 l1 : Option PV} {M : Mem} {Q : Option PV → Mem → Prop} {x : Int32} (hx : x = 0 ∨ x = 1) : WP d 139 48 [l0, l1] ([vi x]) M Q = Q (some (vi x)) M := w_zret mC_139 d139_48 rfl hx
theorem d139_49 : decode cX11_isOfKind 49 = .ok (.aload_n 0, 1) := by decide +kernel
theorem k139_49 {d x : Nat} {l1 : Option PV} {st : List PV} {M : Mem} {Q : Option PV → Mem → Prop} : WP d 139 49 [some (vr x), l1] (st) M Q = WP d 139 50 [some (vr x), l1] (vr x :: st) M Q := w1 mC_139 d139_49 rfl rfl
theorem d139_50 : decode cX11_isOfKind 50 = .ok (.instanceof 332, 3) := by decide +kernel
theorem k139_50n {d : Nat} {l0 l1 : Option PV} {st : List PV} {M : Mem} {Q : Option PV → Mem → Prop} : WP d 139 50 [l0, l1] (vr 0 :: st) M Q = WP d 139 53 [l0, l1] (vi 0 :: st) M Q := w_inst0 mC_139 d139_50 (k := 1) rfl
theorem k139_50 {d : Nat} {l0 l1 : Option PV} {st : List PV} {M : Mem} {Q : Option PV → Mem → Prop} {r : Nat} (h0 : r ≠ 0) (ho : okF 8 (mK M r) = true) : WP d 139 50 [l0, l1] (vr r :: st) M Q = WP d 139 53 [l0, l1] (vi (if subK (mK M r) 1 = true then 1 else 0) :: st) M Q := w_inst mC_139 d139_50 rfl h0 ho
theorem d139_53 : decode cX11_isOfKind 53 = .ok (.ireturn, 1) := by decide +kernel
theorem k139_53 {d : Nat} {l0 l1 : Option PV} {M : Mem} {Q : Option PV → Mem → Prop} {x : Int32} (hx : x = 0 ∨ x = 1) : WP d 139 53 [l0, l1] ([vi x]) M Q = Q (some (vi x)) M := w_zret mC_139 d139_53 rfl hx
theorem d139_54 : decode cX11_isOfKind 54 = .ok (.aload_n 0, 1) := by decide +kernel
theorem k139_54 {d x : Nat} {l1 : Option PV} {st : List PV} {M : Mem} {Q : Option PV → Mem → Prop} : WP d 139 54 [some (vr x), l1] (st) M Q = WP d 139 55 [some (vr x), l1] (vr x :: st) M Q := w1 mC_139 d139_54 rfl rfl
theorem d139_55 : decode cX11_isOfKind 55 = .ok (.instanceof 335, 3) := by decide +kernel
theorem k139_55n {d : Nat} {l0 l1 : Option PV} {st : List PV} {M : Mem} {Q : Option PV → Mem → Prop} : WP d 139 55 [l0, l1] (vr 0 :: st) M Q = WP d 139 58 [l0, l1] (vi 0 :: st) M Q := w_inst0 mC_139 d139_55 (k := 5) rfl
theorem k139_55 {d : Nat} {l0 l1 : Option PV} {st : List PV} {M : Mem} {Q : Option PV → Mem → Prop} {r : Nat} (h0 : r ≠ 0) (ho : okF 8 (mK M r) = true) : WP d 139 55 [l0, l1] (vr r :: st) M Q = WP d 139 58 [l0, l1] (vi (if subK (mK M r) 5 = true then 1 else 0) :: st) M Q := w_inst mC_139 d139_55 rfl h0 ho
theorem d139_58 : decode cX11_isOfKind 58 = .ok (.ireturn, 1) := by decide +kernel
theorem k139_58 {d : Nat} {l0 l1 : Option PV} {M : Mem} {Q : Option PV → Mem → Prop} {x : Int32} (hx : x = 0 ∨ x = 1) : WP d 139 58 [l0, l1] ([vi x]) M Q = Q (some (vi x)) M := w_zret mC_139 d139_58 rfl hx
theorem d139_59 : decode cX11_isOfKind 59 = .ok (.aload_n 0, 1) := by decide +kernel
theorem k139_59 {d x : Nat} {l1 : Option PV} {st : List PV} {M : Mem} {Q : Option PV → Mem → Prop} : WP d 139 59 [some (vr x), l1] (st) M Q = WP d 139 60 [some (vr x), l1] (vr x :: st) M Q := w1 mC_139 d139_59 rfl rfl
theorem d139_60 : decode cX11_isOfKind 60 = .ok (.instanceof 338, 3) := by decide +kernel
theorem k139_60n {d : Nat} {l0 l1 : Option PV} {st : List PV} {M : Mem} {Q : Option PV → Mem → Prop} : WP d 139 60 [l0, l1] (vr 0 :: st) M Q = WP d 139 63 [l0, l1] (vi 0 :: st) M Q := w_inst0 mC_139 d139_60 (k := 7) rfl
theorem k139_60 {d : Nat} {l0 l1 : Option PV} {st : List PV} {M : Mem} {Q : Option PV → Mem → Prop} {r : Nat} (h0 : r ≠ 0) (ho : okF 8 (mK M r) = true) : WP d 139 60 [l0, l1] (vr r :: st) M Q = WP d 139 63 [l0, l1] (vi (if subK (mK M r) 7 = true then 1 else 0) :: st) M Q := w_inst mC_139 d139_60 rfl h0 ho
theorem d139_63 : decode cX11_isOfKind 63 = .ok (.ireturn, 1) := by decide +kernel
theorem k139_63 {d : Nat} {l0 l1 : Option PV} {M : Mem} {Q : Option PV → Mem → Prop} {x : Int32} (hx : x = 0 ∨ x = 1) : WP d 139 63 [l0, l1] ([vi x]) M Q = Q (some (vi x)) M := w_zret mC_139 d139_63 rfl hx
theorem d139_64 : decode cX11_isOfKind 64 = .ok (.aload_n 0, 1) := by decide +kernel
theorem k139_64 {d x : Nat} {l1 : Option PV} {st : List PV} {M : Mem} {Q : Option PV → Mem → Prop} : WP d 139 64 [some (vr x), l1] (st) M Q = WP d 139 65 [some (vr x), l1] (vr x :: st) M Q := w1 mC_139 d139_64 rfl rfl
theorem d139_65 : decode cX11_isOfKind 65 = .ok (.instanceof 341, 3) := by decide +kernel
theorem k139_65n {d : Nat} {l0 l1 : Option PV} {st : List PV} {M : Mem} {Q : Option PV → Mem → Prop} : WP d 139 65 [l0, l1] (vr 0 :: st) M Q = WP d 139 68 [l0, l1] (vi 0 :: st) M Q := w_inst0 mC_139 d139_65 (k := 0) rfl
theorem k139_65 {d : Nat} {l0 l1 : Option PV} {st : List PV} {M : Mem} {Q : Option PV → Mem → Prop} {r : Nat} (h0 : r ≠ 0) (ho : okF 8 (mK M r) = true) : WP d 139 65 [l0, l1] (vr r :: st) M Q = WP d 139 68 [l0, l1] (vi (if subK (mK M r) 0 = true then 1 else 0) :: st) M Q := w_inst mC_139 d139_65 rfl h0 ho
theorem d139_68 : decode cX11_isOfKind 68 = .ok (.ireturn, 1) := by decide +kernel
theorem k139_68 {d : Nat} {l0 l1 : Option PV} {M : Mem} {Q : Option PV → Mem → Prop} {x : Int32} (hx : x = 0 ∨ x = 1) : WP d 139 68 [l0, l1] ([vi x]) M Q = Q (some (vi x)) M := w_zret mC_139 d139_68 rfl hx
theorem d139_69 : decode cX11_isOfKind 69 = .ok (.aload_n 0, 1) := by decide +kernel
theorem k139_69 {d x : Nat} {l1 : Option PV} {st : List PV} {M : Mem} {Q : Option PV → Mem → Prop} : WP d 139 69 [some (vr x), l1] (st) M Q = WP d 139 70 [some (vr x), l1] (vr x :: st) M Q := w1 mC_139 d139_69 rfl rfl
theorem d139_70 : decode cX11_isOfKind 70 = .ok (.instanceof 344, 3) := by decide +kernel
theorem k139_70n {d : Nat} {l0 l1 : Option PV} {st : List PV} {M : Mem} {Q : Option PV → Mem → Prop} : WP d 139 70 [l0, l1] (vr 0 :: st) M Q = WP d 139 73 [l0, l1] (vi 0 :: st) M Q := w_inst0 mC_139 d139_70 (k := 2) rfl
theorem k139_70 {d : Nat} {l0 l1 : Option PV} {st : List PV} {M : Mem} {Q : Option PV → Mem → Prop} {r : Nat} (h0 : r ≠ 0) (ho : okF 8 (mK M r) = true) : WP d 139 70 [l0, l1] (vr r :: st) M Q = WP d 139 73 [l0, l1] (vi (if subK (mK M r) 2 = true then 1 else 0) :: st) M Q := w_inst mC_139 d139_70 rfl h0 ho
theorem d139_73 : decode cX11_isOfKind 73 = .ok (.ireturn, 1) := by decide +kernel
theorem k139_73 {d : Nat} {l0 l1 : Option PV} {M : Mem} {Q : Option PV → Mem → Prop} {x : Int32} (hx : x = 0 ∨ x = 1) : WP d 139 73 [l0, l1] ([vi x]) M Q = Q (some (vi x)) M := w_zret mC_139 d139_73 rfl hx
theorem d139_74 : decode cX11_isOfKind 74 = .ok (.aload_n 0, 1) := by decide +kernel
theorem k139_74 {d x : Nat} {l1 : Option PV} {st : List PV} {M : Mem} {Q : Option PV → Mem → Prop} : WP d 139 74 [some (vr x), l1] (st) M Q = WP d 139 75 [some (vr x), l1] (vr x :: st) M Q := w1 mC_139 d139_74 rfl rfl
theorem d139_75 : decode cX11_isOfKind 75 = .ok (.instanceof 347, 3) := by decide +kernel
theorem k139_75n {d : Nat} {l0 l1 : Option PV} {st : List PV} {M : Mem} {Q : Option PV → Mem → Prop} : WP d 139 75 [l0, l1] (vr 0 :: st) M Q = WP d 139 78 [l0, l1] (vi 0 :: st) M Q := w_inst0 mC_139 d139_75 (k := 10) rfl
theorem k139_75 {d : Nat} {l0 l1 : Option PV} {st : List PV} {M : Mem} {Q : Option PV → Mem → Prop} {r : Nat} (h0 : r ≠ 0) (ho : okF 8 (mK M r) = true) : WP d 139 75 [l0, l1] (vr r :: st) M Q = WP d 139 78 [l0, l1] (vi (if subK (mK M r) 10 = true then 1 else 0) :: st) M Q := w_inst mC_139 d139_75 rfl h0 ho
theorem d139_78 : decode cX11_isOfKind 78 = .ok (.ireturn, 1) := by decide +kernel
theorem k139_78 {d : Nat} {l0 l1 : Option PV} {M : Mem} {Q : Option PV → Mem → Prop} {x : Int32} (hx : x = 0 ∨ x = 1) : WP d 139 78 [l0, l1] ([vi x]) M Q = Q (some (vi x)) M := w_zret mC_139 d139_78 rfl hx
theorem d139_79 : decode cX11_isOfKind 79 = .ok (.aload_n 0, 1) := by decide +kernel
theorem k139_79 {d x : Nat} {l1 : Option PV} {st : List PV} {M : Mem} {Q : Option PV → Mem → Prop} : WP d 139 79 [some (vr x), l1] (st) M Q = WP d 139 80 [some (vr x), l1] (vr x :: st) M Q := w1 mC_139 d139_79 rfl rfl
theorem d139_80 : decode cX11_isOfKind 80 = .ok (.ifnull 7, 3) := by decide +kernel
theorem k139_80 {d : Nat} {l0 l1 : Option PV} {st : List PV} {M : Mem} {Q : Option PV → Mem → Prop} {r : Nat} : WP d 139 80 [l0, l1] (vr r :: st) M Q = (if r = 0 then WP d 139 87 [l0, l1] (st) M Q else WP d 139 83 [l0, l1] (st) M Q) := w_null mC_139 d139_80 (by decide)
theorem d139_83 : decode cX11_isOfKind 83 = .ok (.iconst 1, 1) := by decide +kernel
theorem k139_83 {d : Nat} {l0 l1 : Option PV} {st : List PV} {M : Mem} {Q : Option PV → Mem → Prop} : WP d 139 83 [l0, l1] (st) M Q = WP d 139 84 [l0, l1] (vi 1 :: st) M Q := w_iconst mC_139 d139_83 (by decide)
theorem d139_84 : decode cX11_isOfKind 84 = .ok (.goto 4, 3) := by decide +kernel
theorem k139_84 {d : Nat} {l0 l1 : Option PV} {st : List PV} {M : Mem} {Q : Option PV → Mem → Prop} : WP d 139 84 [l0, l1] (st) M Q = WP d 139 88 [l0, l1] (st) M Q := w_goto mC_139 d139_84 (by decide)
theorem d139_87 : decode cX11_isOfKind 87 = .ok (.iconst 0, 1) := by decide +kernel
theorem k139_87 {d : Nat} {l0 l1 : Option PV} {st : List PV} {M : Mem} {Q : Option PV → Mem → Prop} : WP d 139 87 [l0, l1] (st) M Q = WP d 139 88 [l0, l1] (vi 0 :: st) M Q := w_iconst mC_139 d139_87 (by decide)
theorem d139_88 : decode cX11_isOfKind 88 = .ok (.ireturn, 1) := by decide +kernel
theorem k139_88 {d : Nat} {l0 l1 : Option PV} {M : Mem} {Q : Option PV → Mem → Prop} {x : Int32} (hx : x = 0 ∨ x = 1) : WP d 139 88 [l0, l1] ([vi x]) M Q = Q (some (vi x)) M := w_zret mC_139 d139_88 rfl hx
theorem d140_0 : decode cX11_count 0 = .ok (.iload_n 1, 1) := by decide +kernel
theorem k140_0 {d : Nat} {x : Int32} {l0 : Option PV} {st : List PV} {M : Mem} {Q : Option PV → Mem → Prop} : WP d 140 0 [l0, some (vi x)] (st) M Q = WP d 140 1 [l0, some (vi x)] (vi x :: st) M Q := w1 mC_140 d140_0 rfl rfl
theorem d140_1 : decode cX11_count 1 = .ok (.tableswitch 77 0 5 #[39, 47, 55, 60, 65, 70], 39) := by decide +kernel
theorem k140_1c0 {d : Nat} {l0 l1 : Option PV} {st : List PV} {M : Mem} {Q : Option PV → Mem → Prop} : WP d 140 1 [l0, l1] (vi 0 :: st) M Q = WP d 140 40 [l0, l1] (st) M Q := w_sw mC_140 d140_1 (by decide +kernel)
theorem k140_1c1 {d : Nat} {l0 l1 : Option PV} {st : List PV} {M : Mem} {Q : Option PV → Mem → Prop} : WP d 140 1 [l0, l1] (vi 1 :: st) M Q = WP d 140 48 [l0, l1] (st) M Q := w_sw mC_140 d140_1 (by decide +kernel)
theorem k140_1c2 {d : Nat} {l0 l1 : Option PV} {st : List PV} {M : Mem} {Q : Option PV → Mem → Prop} : WP d 140 1 [l0, l1] (vi 2 :: st) M Q = WP d 140 56 [l0, l1] (st) M Q := w_sw mC_140 d140_1 (by decide +kernel)
theorem k140_1c3 {d : Nat} {l0 l1 : Option PV} {st : List PV} {M : Mem} {Q : Option PV → Mem → Prop} : WP d 140 1 [l0, l1] (vi 3 :: st) M Q = WP d 140 61 [l0, l1] (st) M Q := w_sw mC_140 d140_1 (by decide +kernel)
theorem k140_1c4 {d : Nat} {l0 l1 : Option PV} {st : List PV} {M : Mem} {Q : Option PV → Mem → Prop} : WP d 140 1 [l0, l1] (vi 4 :: st) M Q = WP d 140 66 [l0, l1] (st) M Q := w_sw mC_140 d140_1 (by decide +kernel)
theorem k140_1c5 {d : Nat} {l0 l1 : Option PV} {st : List PV} {M : Mem} {Q : Option PV → Mem → Prop} : WP d 140 1 [l0, l1] (vi 5 :: st) M Q = WP d 140 71 [l0, l1] (st) M Q := w_sw mC_140 d140_1 (by decide +kernel)
theorem k140_1 {d : Nat} {l0 l1 : Option PV} {st : List PV} {M : Mem} {Q : Option PV → Mem → Prop} {x : Int32} (h : x.toInt < 0 ∨ 5 < x.toInt) : WP d 140 1 [l0, l1] (vi x :: st) M Q = WP d 140 78 [l0, l1] (st) M Q := w_swd mC_140 d140_1 (by decide) h
theorem d140_40 : decode cX11_count 40 = .ok (.aload_n 0, 1) := by decide +kernel
theorem k140_40 {d x : Nat} {l1 : Option PV} {st : List PV} {M : Mem} {Q : Option PV → Mem → Prop} : WP d 140 40 [some (vr x), l1] (st) M Q = WP d 140 41 [some (vr x), l1] (vr x :: st) M Q := w1 mC_140 d140_40 rfl rfl
theorem d140_41 : decode cX11_count 41 = .ok (.getfield 10, 3) := by decide +kernel
theorem k140_41 {d : Nat} {l0 l1 : Option PV} {st : List PV} {M : Mem} {Q : Option PV → Mem → Prop} {r : Nat} (hk : mK M r = 11) : WP d 140 41 [l0, l1] (vr r :: st) M Q = WP d 140 44 [l0, l1] (vr (mR M r 0) :: st) M Q := w_getr mC_140 d140_41 fE_11_10 rfl (by rw [hk]; rfl)
theorem d140_44 : decode cX11_count 44 = .ok (.getfield 199, 3) := by decide +kernel
theorem k140_44 {d : Nat} {l0 l1 : Option PV} {st : List PV} {M : Mem} {Q : Option PV → Mem → Prop} {r : Nat} (hk : mK M r = 4) : WP d 140 44 [l0, l1] (vr r :: st) M Q = WP d 140 47 [l0, l1] (vi (mI M r 7) :: st) M Q := w_get mC_140 d140_44 fE_11_199 rfl (by rw [hk]; rfl)
theorem d140_47 : decode cX11_count 47 = .ok (.ireturn, 1) := by decide +kernel
theorem k140_47 {d : Nat} {l0 l1 : Option PV} {M : Mem} {Q : Option PV → Mem → Prop} {x : Int32} : WP d 140 47 [l0, l1] ([vi x]) M Q = Q (some (vi x)) M := w_iret mC_140 d140_47 rfl
theorem d140_48 : decode cX11_count 48 = .ok (.aload_n 0, 1) := by decide +kernel
theorem k140_48 {d x : Nat} {l1 : Option PV} {st : List PV} {M : Mem} {Q : Option PV → Mem → Prop} : WP d 140 48 [some (vr x), l1] (st) M Q = WP d 140 49 [some (vr x), l1] (vr x :: st) M Q := w1 mC_140 d140_48 rfl rfl
theorem d140_49 : decode cX11_count 49 = .ok (.getfield 10, 3) := by decide +kernel
theorem k140_49 {d : Nat} {l0 l1 : Option PV} {st : List PV} {M : Mem} {Q : Option PV → Mem → Prop} {r : Nat} (hk : mK M r = 11) : WP d 140 49 [l0, l1] (vr r :: st) M Q = WP d 140 52 [l0, l1] (vr (mR M r 0) :: st) M Q := w_getr mC_140 d140_49 fE_11_10 rfl (by rw [hk]; rfl)
theorem d140_52 : decode cX11_count 52 = .ok (.getfield 187, 3) := by decide +kernel
theorem k140_52 {d : Nat} {l0 l1 : Option PV} {st : List PV} {M : Mem} {Q : Option PV → Mem → Prop} {r : Nat} (hk : mK M r = 4) : WP d 140 52 [l0, l1] (vr r :: st) M Q = WP d 140 55 [l0, l1] (vi (mI M r 8) :: st) M Q := w_get mC_140 d140_52 fE_11_187 rfl (by rw [hk]; rfl)
theorem d140_55 : decode cX11_count 55 = .ok (.ireturn, 1) := by decide +kernel
theorem k140_55 {d : Nat} {l0 l1 : Option PV} {M : Mem} {Q : Option PV → Mem → Prop} {x : Int32} : WP d 140 55 [l0, l1] ([vi x]) M Q = Q (some (vi x)) M := w_iret mC_140 d140_55 rfl
theorem d140_56 : decode cX11_count 56 = .ok (.aload_n 0, 1) := by decide +kernel
theorem k140_56 {d x : Nat} {l1 : Option PV} {st : List PV} {M : Mem} {Q : Option PV → Mem → Prop} : WP d 140 56 [some (vr x), l1] (st) M Q = WP d 140 57 [some (vr x), l1] (vr x :: st) M Q := w1 mC_140 d140_56 rfl rfl
theorem d140_57 : decode cX11_count 57 = .ok (.getfield 120, 3) := by decide +kernel
theorem k140_57 {d : Nat} {l0 l1 : Option PV} {st : List PV} {M : Mem} {Q : Option PV → Mem → Prop} {r : Nat} (hk : mK M r = 11) : WP d 140 57 [l0, l1] (vr r :: st) M Q = WP d 140 60 [l0, l1] (vi (mI M r 7) :: st) M Q := w_get mC_140 d140_57 fE_11_120 rfl (by rw [hk]; rfl)
theorem d140_60 : decode cX11_count 60 = .ok (.ireturn, 1) := by decide +kernel
theorem k140_60 {d : Nat} {l0 l1 : Option PV} {M : Mem} {Q : Option PV → Mem → Prop} {x : Int32} : WP d 140 60 [l0, l1] ([vi x]) M Q = Q (some (vi x)) M := w_iret mC_140 d140_60 rfl
theorem d140_61 : decode cX11_count 61 = .ok (.aload_n 0, 1) := by decide +kernel
theorem k140_61 {d x : Nat} {l1 : Option PV} {st : List PV} {M : Mem} {Q : Option PV → Mem → Prop} : WP d 140 61 [some (vr x), l1] (st) M Q = WP d 140 62 [some (vr x), l1] (vr x :: st) M Q := w1 mC_140 d140_61 rfl rfl
theorem d140_62 : decode cX11_count 62 = .ok (.getfield 305, 3) := by decide +kernel
theorem k140_62 {d : Nat} {l0 l1 : Option PV} {st : List PV} {M : Mem} {Q : Option PV → Mem → Prop} {r : Nat} (hk : mK M r = 11) : WP d 140 62 [l0, l1] (vr r :: st) M Q = WP d 140 65 [l0, l1] (vi (mI M r 10) :: st) M Q := w_get mC_140 d140_62 fE_11_305 rfl (by rw [hk]; rfl)
theorem d140_65 : decode cX11_count 65 = .ok (.ireturn, 1) := by decide +kernel
theorem k140_65 {d : Nat} {l0 l1 : Option PV} {M : Mem} {Q : Option PV → Mem → Prop} {x : Int32} : WP d 140 65 [l0, l1] ([vi x]) M Q = Q (some (vi x)) M := w_iret mC_140 d140_65 rfl
theorem d140_66 : decode cX11_count 66 = .ok (.aload_n 0, 1) := by decide +kernel
theorem k140_66 {d x : Nat} {l1 : Option PV} {st : List PV} {M : Mem} {Q : Option PV → Mem → Prop} : WP d 140 66 [some (vr x), l1] (st) M Q = WP d 140 67 [some (vr x), l1] (vr x :: st) M Q := w1 mC_140 d140_66 rfl rfl
theorem d140_67 : decode cX11_count 67 = .ok (.getfield 320, 3) := by decide +kernel
theorem k140_67 {d : Nat} {l0 l1 : Option PV} {st : List PV} {M : Mem} {Q : Option PV → Mem → Prop} {r : Nat} (hk : mK M r = 11) : WP d 140 67 [l0, l1] (vr r :: st) M Q = WP d 140 70 [l0, l1] (vi (mI M r 14) :: st) M Q := w_get mC_140 d140_67 fE_11_320 rfl (by rw [hk]; rfl)
theorem d140_70 : decode cX11_count 70 = .ok (.ireturn, 1) := by decide +kernel
theorem k140_70 {d : Nat} {l0 l1 : Option PV} {M : Mem} {Q : Option PV → Mem → Prop} {x : Int32} : WP d 140 70 [l0, l1] ([vi x]) M Q = Q (some (vi x)) M := w_iret mC_140 d140_70 rfl
theorem d140_71 : decode cX11_count 71 = .ok (.aload_n 0, 1) := by decide +kernel
theorem k140_71 {d x : Nat} {l1 : Option PV} {st : List PV} {M : Mem} {Q : Option PV → Mem → Prop} : WP d 140 71 [some (vr x), l1] (st) M Q = WP d 140 72 [some (vr x), l1] (vr x :: st) M Q := w1 mC_140 d140_71 rfl rfl
theorem d140_72 : decode cX11_count 72 = .ok (.getfield 53, 3) := by decide +kernel
theorem k140_72 {d : Nat} {l0 l1 : Option PV} {st : List PV} {M : Mem} {Q : Option PV → Mem → Prop} {r : Nat} (hk : mK M r = 11) : WP d 140 72 [l0, l1] (vr r :: st) M Q = WP d 140 75 [l0, l1] (vr (mR M r 15) :: st) M Q := w_getr mC_140 d140_72 fE_11_53 rfl (by rw [hk]; rfl)
theorem d140_75 : decode cX11_count 75 = .ok (.iconst 0, 1) := by decide +kernel
theorem k140_75 {d : Nat} {l0 l1 : Option PV} {st : List PV} {M : Mem} {Q : Option PV → Mem → Prop} : WP d 140 75 [l0, l1] (st) M Q = WP d 140 76 [l0, l1] (vi 0 :: st) M Q := w_iconst mC_140 d140_75 (by decide)
theorem d140_76 : decode cX11_count 76 = .ok (.iaload, 1) := by decide +kernel
theorem k140_76 {d : Nat} {l0 l1 : Option PV} {st : List PV} {M : Mem} {Q : Option PV → Mem → Prop} {r : Nat} {j : Int32} (hk : mK M r = 13) (hj : inb j (mN M r)) (h1 : r ≠ 1) : WP d 140 76 [l0, l1] (vi j :: vr r :: st) M Q = WP d 140 77 [l0, l1] (vi (mI M r (ix j)) :: st) M Q := w_iald mC_140 d140_76 (by decide) hk hj h1
theorem d140_77 : decode cX11_count 77 = .ok (.ireturn, 1) := by decide +kernel
theorem k140_77 {d : Nat} {l0 l1 : Option PV} {M : Mem} {Q : Option PV → Mem → Prop} {x : Int32} : WP d 140 77 [l0, l1] ([vi x]) M Q = Q (some (vi x)) M := w_iret mC_140 d140_77 rfl
theorem d140_78 : decode cX11_count 78 = .ok (.iconst (-1), 1) := by decide +kernel
theorem k140_78 {d : Nat} {l0 l1 : Option PV} {st : List PV} {M : Mem} {Q : Option PV → Mem → Prop} : WP d 140 78 [l0, l1] (st) M Q = WP d 140 79 [l0, l1] (vi (-1) :: st) M Q := w_iconst mC_140 d140_78 (by decide)
theorem d140_79 : decode cX11_count 79 = .ok (.ireturn, 1) := by decide +kernel
theorem k140_79 {d : Nat} {l0 l1 : Option PV} {M : Mem} {Q : Option PV → Mem → Prop} {x : Int32} : WP d 140 79 [l0, l1] ([vi x]) M Q = Q (some (vi x)) M := w_iret mC_140 d140_79 rfl
theorem d141_0 : decode cX11_within 0 = .ok (.iload_n 0, 1) := by decide +kernel
theorem k141_0 {d : Nat} {x : Int32} {l1 l2 : Option PV} {st : List PV} {M : Mem} {Q : Option PV → Mem → Prop} : WP d 141 0 [some (vi x), l1, l2] (st) M Q = WP d 141 1 [some (vi x), l1, l2] (vi x :: st) M Q := w1 mC_141 d141_0 rfl rfl
theorem d141_1 : decode cX11_within 1 = .ok (.iload_n 1, 1) := by decide +kernel
theorem k141_1 {d : Nat} {x : Int32} {l0 l2 : Option PV} {st : List PV} {M : Mem} {Q : Option PV → Mem → Prop} : WP d 141 1 [l0, some (vi x), l2] (st) M Q = WP d 141 2 [l0, some (vi x), l2] (vi x :: st) M Q := w1 mC_141 d141_1 rfl rfl
theorem d141_2 : decode cX11_within 2 = .ok (.if_icmp .lt 12, 3) := by decide +kernel
theorem k141_2 {d : Nat} {l0 l1 l2 : Option PV} {st : List PV} {M : Mem} {Q : Option PV → Mem → Prop} {x y : Int32} : WP d 141 2 [l0, l1, l2] (vi y :: vi x :: st) M Q = (if x < y then WP d 141 14 [l0, l1, l2] (st) M Q else WP d 141 5 [l0, l1, l2] (st) M Q) := w_ic_lt mC_141 d141_2 (by decide)
theorem d141_5 : decode cX11_within 5 = .ok (.iload_n 0, 1) := by decide +kernel
theorem k141_5 {d : Nat} {x : Int32} {l1 l2 : Option PV} {st : List PV} {M : Mem} {Q : Option PV → Mem → Prop} : WP d 141 5 [some (vi x), l1, l2] (st) M Q = WP d 141 6 [some (vi x), l1, l2] (vi x :: st) M Q := w1 mC_141 d141_5 rfl rfl
theorem d141_6 : decode cX11_within 6 = .ok (.iload_n 2, 1) := by decide +kernel
theorem k141_6 {d : Nat} {x : Int32} {l0 l1 : Option PV} {st : List PV} {M : Mem} {Q : Option PV → Mem → Prop} : WP d 141 6 [l0, l1, some (vi x)] (st) M Q = WP d 141 7 [l0, l1, some (vi x)] (vi x :: st) M Q := w1 mC_141 d141_6 rfl rfl
theorem d141_7 : decode cX11_within 7 = .ok (.if_icmp .gt 7, 3) := by decide +kernel
theorem k141_7 {d : Nat} {l0 l1 l2 : Option PV} {st : List PV} {M : Mem} {Q : Option PV → Mem → Prop} {x y : Int32} : WP d 141 7 [l0, l1, l2] (vi y :: vi x :: st) M Q = (if y < x then WP d 141 14 [l0, l1, l2] (st) M Q else WP d 141 10 [l0, l1, l2] (st) M Q) := w_ic_gt mC_141 d141_7 (by decide)
theorem d141_10 : decode cX11_within 10 = .ok (.iconst 1, 1) := by decide +kernel
theorem k141_10 {d : Nat} {l0 l1 l2 : Option PV} {st : List PV} {M : Mem} {Q : Option PV → Mem → Prop} : WP d 141 10 [l0, l1, l2] (st) M Q = WP d 141 11 [l0, l1, l2] (vi 1 :: st) M Q := w_iconst mC_141 d141_10 (by decide)
theorem d141_11 : decode cX11_within 11 = .ok (.goto 4, 3) := by decide +kernel
theorem k141_11 {d : Nat} {l0 l1 l2 : Option PV} {st : List PV} {M : Mem} {Q : Option PV → Mem → Prop} : WP d 141 11 [l0, l1, l2] (st) M Q = WP d 141 15 [l0, l1, l2] (st) M Q := w_goto mC_141 d141_11 (by decide)
theorem d141_14 : decode cX11_within 14 = .ok (.iconst 0, 1) := by decide +kernel
theorem k141_14 {d : Nat} {l0 l1 l2 : Option PV} {st : List PV} {M : Mem} {Q : Option PV → Mem → Prop} : WP d 141 14 [l0, l1, l2] (st) M Q = WP d 141 15 [l0, l1, l2] (vi 0 :: st) M Q := w_iconst mC_141 d141_14 (by decide)
theorem d141_15 : decode cX11_within 15 = .ok (.ireturn, 1) := by decide +kernel
theorem k141_15 {d : Nat} {l0 l1 l2 : Option PV} {M : Mem} {Q : Option PV → Mem → Prop} {x : Int32} (hx : x = 0 ∨ x = 1) : WP d 141 15 [l0, l1, l2] ([vi x]) M Q = Q (some (vi x)) M := w_zret mC_141 d141_15 rfl hx
theorem d142_0 : decode cX11_isShelf 0 = .ok (.iload_n 0, 1) := by decide +kernel
theorem k142_0 {d : Nat} {x : Int32} {st : List PV} {M : Mem} {Q : Option PV → Mem → Prop} : WP d 142 0 [some (vi x)] (st) M Q = WP d 142 1 [some (vi x)] (vi x :: st) M Q := w1 mC_142 d142_0 rfl rfl
theorem d142_1 : decode cX11_isShelf 1 = .ok (.iconst 0, 1) := by decide +kernel
theorem k142_1 {d : Nat} {l0 : Option PV} {st : List PV} {M : Mem} {Q : Option PV → Mem → Prop} : WP d 142 1 [l0] (st) M Q = WP d 142 2 [l0] (vi 0 :: st) M Q := w_iconst mC_142 d142_1 (by decide)
theorem d142_2 : decode cX11_isShelf 2 = .ok (.iconst 5, 1) := by decide +kernel
theorem k142_2 {d : Nat} {l0 : Option PV} {st : List PV} {M : Mem} {Q : Option PV → Mem → Prop} : WP d 142 2 [l0] (st) M Q = WP d 142 3 [l0] (vi 5 :: st) M Q := w_iconst mC_142 d142_2 (by decide)
theorem d142_3 : decode cX11_isShelf 3 = .ok (.invokestatic 79, 3) := by decide +kernel
theorem k142_3 {d : Nat} {l0 : Option PV} {st : List PV} {M : Mem} {Q : Option PV → Mem → Prop} {a0 a1 a2 : Int32} (hl : szL st ≤ 8) : WP (d + 1) 142 3 [l0] (vi a2 :: vi a1 :: vi a0 :: st) M Q = WP d 141 0 [some (vi a0), some (vi a1), some (vi a2)] [] M (fun v M' => WP (d + 1) 142 6 [l0] (psh v st) M' Q) := w_callS mC_142 d142_3 rfl rfl (Nat.le_of_ble_eq_true rfl) (by decide) rfl hl
theorem d142_6 : decode cX11_isShelf 6 = .ok (.ireturn, 1) := by decide +kernel
theorem k142_6 {d : Nat} {l0 : Option PV} {M : Mem} {Q : Option PV → Mem → Prop} {x : Int32} (hx : x = 0 ∨ x = 1) : WP d 142 6 [l0] ([vi x]) M Q = Q (some (vi x)) M := w_zret mC_142 d142_6 rfl hx
theorem d143_0 : decode cX11_isPair 0 = .ok (.iload_n 1, 1) := by decide +kernel
theorem k143_0 {d : Nat} {x : Int32} {l0 : Option PV} {st : List PV} {M : Mem} {Q : Option PV → Mem → Prop} : WP d 143 0 [l0, some (vi x)] (st) M Q = WP d 143 1 [l0, some (vi x)] (vi x :: st) M Q := w1 mC_143 d143_0 rfl rfl
theorem d143_1 : decode cX11_isPair 1 = .ok (.ifCond .lt 35, 3) := by decide +kernel
theorem k143_1 {d : Nat} {l0 l1 : Option PV} {st : List PV} {M : Mem} {Q : Option PV → Mem → Prop} {x : Int32} : WP d 143 1 [l0, l1] (vi x :: st) M Q = (if x < 0 then WP d 143 36 [l0, l1] (st) M Q else WP d 143 4 [l0, l1] (st) M Q) := w_if_lt mC_143 d143_1 (by decide)
theorem d143_4 : decode cX11_isPair 4 = .ok (.aload_n 0, 1) := by decide +kernel
theorem k143_4 {d x : Nat} {l1 : Option PV} {st : List PV} {M : Mem} {Q : Option PV → Mem → Prop} : WP d 143 4 [some (vr x), l1] (st) M Q = WP d 143 5 [some (vr x), l1] (vr x :: st) M Q := w1 mC_143 d143_4 rfl rfl
theorem d143_5 : decode cX11_isPair 5 = .ok (.getfield 10, 3) := by decide +kernel
theorem k143_5 {d : Nat} {l0 l1 : Option PV} {st : List PV} {M : Mem} {Q : Option PV → Mem → Prop} {r : Nat} (hk : mK M r = 11) : WP d 143 5 [l0, l1] (vr r :: st) M Q = WP d 143 8 [l0, l1] (vr (mR M r 0) :: st) M Q := w_getr mC_143 d143_5 fE_11_10 rfl (by rw [hk]; rfl)
theorem d143_8 : decode cX11_isPair 8 = .ok (.iload_n 1, 1) := by decide +kernel
theorem k143_8 {d : Nat} {x : Int32} {l0 : Option PV} {st : List PV} {M : Mem} {Q : Option PV → Mem → Prop} : WP d 143 8 [l0, some (vi x)] (st) M Q = WP d 143 9 [l0, some (vi x)] (vi x :: st) M Q := w1 mC_143 d143_8 rfl rfl
theorem d143_9 : decode cX11_isPair 9 = .ok (.bipush 10, 2) := by decide +kernel
theorem k143_9 {d : Nat} {l0 l1 : Option PV} {st : List PV} {M : Mem} {Q : Option PV → Mem → Prop} : WP d 143 9 [l0, l1] (st) M Q = WP d 143 11 [l0, l1] (vi 10 :: st) M Q := w_bipush mC_143 d143_9 (by decide)
theorem d143_11 : decode cX11_isPair 11 = .ok (.idiv, 1) := by decide +kernel
theorem k143_11 {d : Nat} {l0 l1 : Option PV} {st : List PV} {M : Mem} {Q : Option PV → Mem → Prop} {x y : Int32} (h : y ≠ 0) : WP d 143 11 [l0, l1] (vi y :: vi x :: st) M Q = WP d 143 12 [l0, l1] (vi (x / y) :: st) M Q := w_div mC_143 d143_11 h
theorem d143_12 : decode cX11_isPair 12 = .ok (.invokevirtual 117, 3) := by decide +kernel
theorem k143_12 {d : Nat} {l0 l1 : Option PV} {st : List PV} {M : Mem} {Q : Option PV → Mem → Prop} {a0 : Int32} {r : Nat} (hl : szL st ≤ 8) (hk : mK M r = 4) : WP (d + 1) 143 12 [l0, l1] (vi a0 :: vr r :: st) M Q = WP d 24 0 [some (vr r), some (vi a0)] [] M (fun v M' => WP (d + 1) 143 15 [l0, l1] (psh v st) M' Q) := w_callV mC_143 d143_12 (ci := 4) rfl rfl rfl (Nat.le_of_ble_eq_true rfl) (by decide) rfl hl hk
theorem d143_15 : decode cX11_isPair 15 = .ok (.ifCond .eq 21, 3) := by decide +kernel
theorem k143_15 {d : Nat} {l0 l1 : Option PV} {st : List PV} {M : Mem} {Q : Option PV → Mem → Prop} {x : Int32} : WP d 143 15 [l0, l1] (vi x :: st) M Q = (if x = 0 then WP d 143 36 [l0, l1] (st) M Q else WP d 143 18 [l0, l1] (st) M Q) := w_if_eq mC_143 d143_15 (by decide)
theorem d143_18 : decode cX11_isPair 18 = .ok (.aload_n 0, 1) := by decide +kernel
theorem k143_18 {d x : Nat} {l1 : Option PV} {st : List PV} {M : Mem} {Q : Option PV → Mem → Prop} : WP d 143 18 [some (vr x), l1] (st) M Q = WP d 143 19 [some (vr x), l1] (vr x :: st) M Q := w1 mC_143 d143_18 rfl rfl
theorem d143_19 : decode cX11_isPair 19 = .ok (.getfield 10, 3) := by decide +kernel
theorem k143_19 {d : Nat} {l0 l1 : Option PV} {st : List PV} {M : Mem} {Q : Option PV → Mem → Prop} {r : Nat} (hk : mK M r = 11) : WP d 143 19 [l0, l1] (vr r :: st) M Q = WP d 143 22 [l0, l1] (vr (mR M r 0) :: st) M Q := w_getr mC_143 d143_19 fE_11_10 rfl (by rw [hk]; rfl)
theorem d143_22 : decode cX11_isPair 22 = .ok (.iload_n 1, 1) := by decide +kernel
theorem k143_22 {d : Nat} {x : Int32} {l0 : Option PV} {st : List PV} {M : Mem} {Q : Option PV → Mem → Prop} : WP d 143 22 [l0, some (vi x)] (st) M Q = WP d 143 23 [l0, some (vi x)] (vi x :: st) M Q := w1 mC_143 d143_22 rfl rfl
theorem d143_23 : decode cX11_isPair 23 = .ok (.bipush 10, 2) := by decide +kernel
theorem k143_23 {d : Nat} {l0 l1 : Option PV} {st : List PV} {M : Mem} {Q : Option PV → Mem → Prop} : WP d 143 23 [l0, l1] (st) M Q = WP d 143 25 [l0, l1] (vi 10 :: st) M Q := w_bipush mC_143 d143_23 (by decide)
theorem d143_25 : decode cX11_isPair 25 = .ok (.irem, 1) := by decide +kernel
theorem k143_25 {d : Nat} {l0 l1 : Option PV} {st : List PV} {M : Mem} {Q : Option PV → Mem → Prop} {x y : Int32} (h : y ≠ 0) : WP d 143 25 [l0, l1] (vi y :: vi x :: st) M Q = WP d 143 26 [l0, l1] (vi (x % y) :: st) M Q := w_rem mC_143 d143_25 h
theorem d143_26 : decode cX11_isPair 26 = .ok (.invokevirtual 128, 3) := by decide +kernel
theorem k143_26 {d : Nat} {l0 l1 : Option PV} {st : List PV} {M : Mem} {Q : Option PV → Mem → Prop} {a0 : Int32} {r : Nat} (hl : szL st ≤ 8) (hk : mK M r = 4) : WP (d + 1) 143 26 [l0, l1] (vi a0 :: vr r :: st) M Q = WP d 25 0 [some (vr r), some (vi a0)] [] M (fun v M' => WP (d + 1) 143 29 [l0, l1] (psh v st) M' Q) := w_callV mC_143 d143_26 (ci := 4) rfl rfl rfl (Nat.le_of_ble_eq_true rfl) (by decide) rfl hl hk
theorem d143_29 : decode cX11_isPair 29 = .ok (.ifCond .eq 7, 3) := by decide +kernel
theorem k143_29 {d : Nat} {l0 l1 : Option PV} {st : List PV} {M : Mem} {Q : Option PV → Mem → Prop} {x : Int32} : WP d 143 29 [l0, l1] (vi x :: st) M Q = (if x = 0 then WP d 143 36 [l0, l1] (st) M Q else WP d 143 32 [l0, l1] (st) M Q) := w_if_eq mC_143 d143_29 (by decide)
theorem d143_32 : decode cX11_isPair 32 = .ok (.iconst 1, 1) := by decide +kernel
theorem k143_32 {d : Nat} {l0 l1 : Option PV} {st : List PV} {M : Mem} {Q : Option PV → Mem → Prop} : WP d 143 32 [l0, l1] (st) M Q = WP d 143 33 [l0, l1] (vi 1 :: st) M Q := w_iconst mC_143 d143_32 (by decide)
theorem d143_33 : decode cX11_isPair 33 = .ok (.goto 4, 3) := by decide +kernel
theorem k143_33 {d : Nat} {l0 l1 : Option PV} {st : List PV} {M : Mem} {Q : Option PV → Mem → Prop} : WP d 143 33 [l0, l1] (st) M Q = WP d 143 37 [l0, l1] (st) M Q := w_goto mC_143 d143_33 (by decide)
theorem d143_36 : decode cX11_isPair 36 = .ok (.iconst 0, 1) := by decide +kernel
theorem k143_36 {d : Nat} {l0 l1 : Option PV} {st : List PV} {M : Mem} {Q : Option PV → Mem → Prop} : WP d 143 36 [l0, l1] (st) M Q = WP d 143 37 [l0, l1] (vi 0 :: st) M Q := w_iconst mC_143 d143_36 (by decide)
theorem d143_37 : decode cX11_isPair 37 = .ok (.ireturn, 1) := by decide +kernel
theorem k143_37 {d : Nat} {l0 l1 : Option PV} {M : Mem} {Q : Option PV → Mem → Prop} {x : Int32} (hx : x = 0 ∨ x = 1) : WP d 143 37 [l0, l1] ([vi x]) M Q = Q (some (vi x)) M := w_zret mC_143 d143_37 rfl hx
