/-! ===== the forms of the step rows ===== -/
def swt (pc : Nat) (lo hi d : Int) (offs : Array Int) (x : Int) : Option Nat := if x < lo ∨ hi < x then tgt pc d else match offs[(x - lo).toNat]? with
  | some o => tgt pc o
  | none => none
def lswt (pc : Nat) (d : Int) (ps : Array (Int × Int)) (x : Int) : Option Nat := if (ps.toList.zip (ps.toList.drop 1)).all (fun (a, next) => a.1 < next.1) = true then tgt pc (Op.lookupswitch.offset ps.toList d x) else none
section R0
variable {d y pc n : Nat} {ls ls' : Loc1} {st : List PV} {M : Mem} {Q : Option PV → Mem → Prop} {cc : ByteArray}
theorem w_iconst {k : Int} {v : Int32} (hc : mC y = cc) (hd : decode cc pc = .ok (.iconst k, 1)) (hv : Int32.ofInt k = v) : WP d y pc ls st M Q = WP d y (pc + 1) ls (vi v :: st) M Q := by subst hv; exact w1 hc hd rfl rfl
theorem w_bipush {k : Int} {v : Int32} (hc : mC y = cc) (hd : decode cc pc = .ok (.bipush k, 2)) (hv : (Int8.ofInt k).toInt32 = v) : WP d y pc ls st M Q = WP d y (pc + 2) ls (vi v :: st) M Q := by subst hv; exact w1 hc hd rfl rfl
theorem w_sipush {k : Int} {v : Int32} (hc : mC y = cc) (hd : decode cc pc = .ok (.sipush k, 3)) (hv : (Int16.ofInt k).toInt32 = v) : WP d y pc ls st M Q = WP d y (pc + 3) ls (vi v :: st) M Q := by subst hv; exact w1 hc hd rfl rfl
theorem w_lconst {k : Fin 2} {v : Int64} (hc : mC y = cc) (hd : decode cc pc = .ok (.lconst k, 1)) (hv : Int64.ofNat k = v) : WP d y pc ls st M Q = WP d y (pc + 1) ls (vl v :: st) M Q := by subst hv; exact w1 hc hd rfl rfl
theorem w_ldc {k : Nat} {v : Int32} (hc : mC y = cc) (hd : decode cc pc = .ok (.ldc k, 2)) (hv : kI (mCl y) k = some v) : WP d y pc ls st M Q = WP d y (pc + 2) ls (vi v :: st) M Q := w1 hc hd rfl (by simp only [ex, hv]; rfl)
theorem w_ldcw {k : Nat} {v : Int32} (hc : mC y = cc) (hd : decode cc pc = .ok (.ldc_w k, 3)) (hv : kI (mCl y) k = some v) : WP d y pc ls st M Q = WP d y (pc + 3) ls (vi v :: st) M Q := w1 hc hd rfl (by simp only [ex, hv]; rfl)
theorem w_ldl {k : Nat} {v : Int64} (hc : mC y = cc) (hd : decode cc pc = .ok (.ldc2_w k, 3)) (hv : kL (mCl y) k = some v) : WP d y pc ls st M Q = WP d y (pc + 3) ls (vl v :: st) M Q := w1 hc hd rfl (by simp only [ex, hv]; rfl)
theorem w_iinc {k : Nat} {z : Int} {x v : Int32} (hc : mC y = cc) (hd : decode cc pc = .ok (.iinc k z, 3)) (hk : ls[k]? = some (some (vi x))) (hv : Int32.ofInt z = v) (hs : ls.set k (some (vi (x + v))) = ls') : WP d y pc ls st M Q = WP d y (pc + 3) ls' st M Q := by
  subst hv; subst hs; exact w1 hc hd rfl (by simp only [ex, e_inc, hk])
theorem w_goto {o : Int} {t : Nat} (hc : mC y = cc) (hd : decode cc pc = .ok (.goto o, 3)) (ht : tgt pc o = some t) : WP d y pc ls st M Q = WP d y t ls st M Q := w1 hc hd rfl (by simp only [ex, ht, jmp])
theorem w_sw {lo hi df : Int} {offs : Array Int} {x : Int32} {t : Nat} (hc : mC y = cc) (hd : decode cc pc = .ok (.tableswitch df lo hi offs, n)) (ht : swt pc lo hi df offs x.toInt = some t) : WP d y pc ls (vi x :: st) M Q = WP d y t ls st M Q := by
  refine w1 hc hd rfl ?_
  simp only [ex, e_sw]
  unfold swt at ht
  split at ht
  · rename_i h; rw [if_pos h, ht]; rfl
  · rename_i h
    rw [if_neg h]
    split at ht
    · rename_i o ho; rw [ho]; simp only; rw [ht]; rfl
    · cases ht
theorem w_swd {lo hi df : Int} {offs : Array Int} {x : Int32} {t : Nat} (hc : mC y = cc) (hd : decode cc pc = .ok (.tableswitch df lo hi offs, n)) (ht : tgt pc df = some t) (h : x.toInt < lo ∨ hi < x.toInt) : WP d y pc ls (vi x :: st) M Q = WP d y t ls st M Q :=
  w_sw hc hd (by unfold swt; rw [if_pos h]; exact ht)
theorem w_lsw {df : Int} {ps : Array (Int × Int)} {x : Int32} {t : Nat} (hc : mC y = cc) (hd : decode cc pc = .ok (.lookupswitch df ps, n)) (ht : lswt pc df ps x.toInt = some t) : WP d y pc ls (vi x :: st) M Q = WP d y t ls st M Q := by
  refine w1 hc hd rfl ?_
  simp only [ex, e_lsw]
  unfold lswt at ht
  split at ht
  · rename_i h; rw [if_pos h, ht]; rfl
  · cases ht
theorem w_iret {x : Int32} (hc : mC y = cc) (hd : decode cc pc = .ok (.ireturn, 1)) (ht : mT y = some .int) : WP d y pc ls [vi x] M Q = Q (some (vi x)) M := w_fin hc hd rfl (by rw [ht]; rfl)
theorem w_zret {x : Int32} (hc : mC y = cc) (hd : decode cc pc = .ok (.ireturn, 1)) (ht : mT y = some .boolean) (hx : x = 0 ∨ x = 1) : WP d y pc ls [vi x] M Q = Q (some (vi x)) M := w_fin hc hd rfl (by rw [ht]; simp [fin, hx])
theorem w_lret {x : Int64} (hc : mC y = cc) (hd : decode cc pc = .ok (.lreturn, 1)) (ht : mT y = some .long) : WP d y pc ls [vl x] M Q = Q (some (vl x)) M := w_fin hc hd rfl (by rw [ht]; rfl)
theorem w_aret {r : Nat} {nm : String} (hc : mC y = cc) (hd : decode cc pc = .ok (.areturn, 1)) (ht : mT y = some (.object nm)) (hr : 2 ≤ r) : WP d y pc ls [vr r] M Q = Q (some (vr r)) M := w_fin hc hd rfl (by rw [ht]; simp only [fin]; rw [if_neg (by omega)])
theorem w_vret (hc : mC y = cc) (hd : decode cc pc = .ok (.return_, 1)) (ht : mT y = none) : WP d y pc ls [] M Q = Q none M := w_fin hc hd rfl (by rw [ht]; rfl)
theorem fitC_eq {yy : Nat} {as rest : List PV} (h1 : szL rest ≤ 8) (h2 : (entL as).length ≤ mL yy) (h0 : yy ≠ 0) : fitC yy as rest = some (yy, as, rest) := by unfold fitC; rw [if_pos ⟨h1, h2, h0⟩]
theorem w_callS {yy k nn : Nat} {as rest : List PV} {E : Loc1} (hc : mC y = cc) (hd : decode cc pc = .ok (.invokestatic k, 3)) (ht : sT (mCl y) k = some (yy, nn)) (hp : pop nn [] st = some (as, rest)) (he : (entL as).length ≤ mL yy) (h0 : yy ≠ 0) (hE : ent (mL yy) as = E) (hl : szL rest ≤ 8) :
    WP (d + 1) y pc ls st M Q = WP d yy 0 E [] M (fun v M' => WP (d + 1) y (pc + 3) ls (psh v rest) M' Q) := by
  subst hE; exact w_call hc hd rfl rfl (by simp only [cal, calS, ht, hp, fitC_eq hl he h0])
theorem w_callN {yy k nn : Nat} {as rest : List PV} {E : Loc1} (hc : mC y = cc) (hd : decode cc pc = .ok (.invokestatic k, 3)) (hz : sT (mCl y) k = none) (ht : nT (mCl y) k = some (yy, nn)) (hp : pop nn [] st = some (as, rest)) (he : (entL as).length ≤ mL yy) (h0 : yy ≠ 0) (hE : ent (mL yy) as = E) (hl : szL rest ≤ 8) :
    WP (d + 1) y pc ls st M Q = WP d yy 0 E [] M (fun v M' => WP (d + 1) y (pc + 3) ls (psh v rest) M' Q) := by
  subst hE; exact w_call hc hd rfl rfl (by simp only [cal, calS, hz, ht, hp, fitC_eq hl he h0])
theorem w_callI {yy k nn r : Nat} {as rest : List PV} {E : Loc1} (hc : mC y = cc) (hd : decode cc pc = .ok (.invokespecial k, 3)) (ht : iT (mCl y) k = some (yy, nn)) (hp : pop nn [] st = some (as, vr r :: rest)) (he : (entL (vr r :: as)).length ≤ mL yy) (h0 : yy ≠ 0) (hE : ent (mL yy) (vr r :: as) = E) (hl : szL rest ≤ 8) (hk : mK M r < 13) :
    WP (d + 1) y pc ls st M Q = WP d yy 0 E [] M (fun v M' => WP (d + 1) y (pc + 3) ls (psh v rest) M' Q) := by
  subst hE
  have hb : Nat.blt (mK M r) 13 = true := Nat.ble_eq_true_of_le hk
  exact w_call hc hd rfl rfl (by simp only [cal, calP, ht, hp, hb, if_true, fitC_eq hl he h0])
theorem w_callJ {yy k nn r : Nat} {as rest : List PV} {E : Loc1} (hc : mC y = cc) (hd : decode cc pc = .ok (.invokespecial k, 3)) (hz : iT (mCl y) k = none) (ht : jT (mCl y) k = some (yy, nn)) (hp : pop nn [] st = some (as, vr r :: rest)) (he : (entL (vr r :: as)).length ≤ mL yy) (h0 : yy ≠ 0) (hE : ent (mL yy) (vr r :: as) = E) (hl : szL rest ≤ 8) (hk : mK M r < 13) :
    WP (d + 1) y pc ls st M Q = WP d yy 0 E [] M (fun v M' => WP (d + 1) y (pc + 3) ls (psh v rest) M' Q) := by
  subst hE
  have hb : Nat.blt (mK M r) 13 = true := Nat.ble_eq_true_of_le hk
  exact w_call hc hd rfl rfl (by simp only [cal, calP, hz, ht, hp, hb, if_true, fitC_eq hl he h0])
theorem w_callP {yy k nn r : Nat} {as rest : List PV} {E : Loc1} (hc : mC y = cc) (hd : decode cc pc = .ok (.invokespecial k, 3)) (hz : iT (mCl y) k = none) (hz2 : jT (mCl y) k = none) (ht : pT (mCl y) k = some (yy, nn)) (hp : pop nn [] st = some (as, vr r :: rest)) (he : (entL (vr r :: as)).length ≤ mL yy) (h0 : yy ≠ 0) (hE : ent (mL yy) (vr r :: as) = E) (hl : szL rest ≤ 8) (hk : mK M r = 0) :
    WP (d + 1) y pc ls st M Q = WP d yy 0 E [] M (fun v M' => WP (d + 1) y (pc + 3) ls (psh v rest) M' Q) := by
  subst hE
  have hb : Nat.beq (mK M r) 0 = true := by rw [hk]; rfl
  exact w_call hc hd rfl rfl (by simp only [cal, calP, hz, hz2, ht, hp, hb, if_true, fitC_eq hl he h0])
theorem w_callV {yy k nn r ci : Nat} {as rest : List PV} {E : Loc1} (hc : mC y = cc) (hd : decode cc pc = .ok (.invokevirtual k, 3)) (hv : vN (mCl y) k = some nn) (ht : vT (mCl y) k ci = some yy) (hp : pop nn [] st = some (as, vr r :: rest)) (he : (entL (vr r :: as)).length ≤ mL yy) (h0 : yy ≠ 0) (hE : ent (mL yy) (vr r :: as) = E) (hl : szL rest ≤ 8) (hk : mK M r = ci ∨ (mK M r = 20 ∧ ci = 1)) (hn : ci ≠ 20 := by decide) :
    WP (d + 1) y pc ls st M Q = WP d yy 0 E [] M (fun v M' => WP (d + 1) y (pc + 3) ls (psh v rest) M' Q) := by
  subst hE
  have hs : vT (mCl y) k (mK M r) = some yy := by
    rcases hk with hk | ⟨hk, h1⟩
    · rw [hk]; exact ht
    · rw [hk]; subst h1; exact ht
  exact w_call hc hd rfl rfl (by simp only [cal, calV, hv, hs, hp, fitC_eq hl he h0])
/-- a builtin's step: what the call is not, and what the step is -/
theorem w_biS {k tb : Nat} {pc' : Nat} {st' : List PV} {M' : Mem} (hc : mC y = cc) (hd : decode cc pc = .ok (.invokestatic k, 3)) (hz : sT (mCl y) k = none) (hz2 : nT (mCl y) k = none) (hb : biS (mCl y) k = some tb) (he : e_bi tb pc ls st M = some (pc', ls, st', M')) : WP d y pc ls st M Q = WP d y pc' ls st' M' Q :=
  w_ex hc hd rfl rfl (by simp only [cal, calS, hz, hz2]) (by simp only [ex, e_call, hb, he])
theorem w_max {k : Nat} {a b : Int32} (hc : mC y = cc) (hd : decode cc pc = .ok (.invokestatic k, 3)) (hz : sT (mCl y) k = none) (hz2 : nT (mCl y) k = none) (hb : biS (mCl y) k = some 1) (hl : szL st ≤ 8) : WP d y pc ls (vi b :: vi a :: st) M Q = WP d y (pc + 3) ls (vi (if a < b then b else a) :: st) M Q :=
  w_biS hc hd hz hz2 hb (by simp only [e_bi, hl, if_true])
theorem w_min {k : Nat} {a b : Int32} (hc : mC y = cc) (hd : decode cc pc = .ok (.invokestatic k, 3)) (hz : sT (mCl y) k = none) (hz2 : nT (mCl y) k = none) (hb : biS (mCl y) k = some 2) (hl : szL st ≤ 8) : WP d y pc ls (vi b :: vi a :: st) M Q = WP d y (pc + 3) ls (vi (if b < a then b else a) :: st) M Q :=
  w_biS hc hd hz hz2 hb (by simp only [e_bi, hl, if_true])
theorem w_abs {k : Nat} {a : Int32} (hc : mC y = cc) (hd : decode cc pc = .ok (.invokestatic k, 3)) (hz : sT (mCl y) k = none) (hz2 : nT (mCl y) k = none) (hb : biS (mCl y) k = some 3) (hl : szL st ≤ 8) : WP d y pc ls (vi a :: st) M Q = WP d y (pc + 3) ls (vi (if 0 ≤ a then a else 0 - a) :: st) M Q :=
  w_biS hc hd hz hz2 hb (by simp only [e_bi, hl, if_true])
theorem w_copyI {k a b : Nat} {sp dp q : Int32} (hc : mC y = cc) (hd : decode cc pc = .ok (.invokestatic k, 3)) (hz : sT (mCl y) k = none) (hz2 : nT (mCl y) k = none) (hb : biS (mCl y) k = some 0) (hl : szL st ≤ 8)
    (h1 : ¬ sp < 0 ∧ ¬ dp < 0 ∧ ¬ q < 0 ∧ ix sp + ix q ≤ mN M b ∧ ix dp + ix q ≤ mN M a ∧ a ≠ 1 ∧ b ≠ 1) (hk : mK M a = 13) (hk2 : mK M b = 13) : WP d y pc ls (vi q :: vi dp :: vr a :: vi sp :: vr b :: st) M Q = WP d y (pc + 3) ls st (cI M b (ix sp) a (ix dp) (ix q)) Q := by
  refine w_biS hc hd hz hz2 hb ?_
  simp only [e_bi]
  rw [if_pos ⟨h1.1, h1.2.1, h1.2.2.1, h1.2.2.2.1, h1.2.2.2.2.1, h1.2.2.2.2.2.1, h1.2.2.2.2.2.2, Or.inl ⟨by rw [hk, hk2], by rw [hk]; decide⟩, hl⟩, if_pos (Or.inl hk2)]
theorem w_copyJ {k a b : Nat} {sp dp q : Int32} (hc : mC y = cc) (hd : decode cc pc = .ok (.invokestatic k, 3)) (hz : sT (mCl y) k = none) (hz2 : nT (mCl y) k = none) (hb : biS (mCl y) k = some 0) (hl : szL st ≤ 8)
    (h1 : ¬ sp < 0 ∧ ¬ dp < 0 ∧ ¬ q < 0 ∧ ix sp + ix q ≤ mN M b ∧ ix dp + ix q ≤ mN M a ∧ a ≠ 1 ∧ b ≠ 1) (hk : mK M a = 14) (hk2 : mK M b = 14) : WP d y pc ls (vi q :: vi dp :: vr a :: vi sp :: vr b :: st) M Q = WP d y (pc + 3) ls st (cJ M b (ix sp) a (ix dp) (ix q)) Q := by
  refine w_biS hc hd hz hz2 hb ?_
  simp only [e_bi]
  rw [if_pos ⟨h1.1, h1.2.1, h1.2.2.1, h1.2.2.2.1, h1.2.2.2.2.1, h1.2.2.2.2.2.1, h1.2.2.2.2.2.2, Or.inl ⟨by rw [hk, hk2], by rw [hk]; decide⟩, hl⟩, if_neg (by rw [hk2]; decide), if_pos hk2]
theorem w_oi {k r : Nat} (hc : mC y = cc) (hd : decode cc pc = .ok (.invokespecial k, 3)) (hz : iT (mCl y) k = none) (hz2 : jT (mCl y) k = none) (hz3 : pT (mCl y) k = none) (hb : biI (mCl y) k = some 4) (hl : szL st ≤ 8) (hk : mK M r < 13) : WP d y pc ls (vr r :: st) M Q = WP d y (pc + 3) ls st M Q :=
  w_ex hc hd rfl rfl (by simp only [cal, calP, hz, hz2, hz3]) (by simp only [ex, e_call, hb, e_bi, hl, hk, and_self, if_true])
theorem w_new {i k : Nat} (hc : mC y = cc) (hd : decode cc pc = .ok (.new i, 3)) (hk : nwT (mCl y) i = some k) : WP d y pc ls st M Q = WP d y (pc + 3) ls (vr (mX M) :: st) (nw M k 0 (nSlots k)) Q := w1 hc hd rfl (by simp only [ex, e_new, hk])
theorem w_nwi {x : Int32} (hc : mC y = cc) (hd : decode cc pc = .ok (.newarray .int, 2)) (hx : ¬ x < 0 ∧ ix x ≤ 100000) : WP d y pc ls (vi x :: st) M Q = WP d y (pc + 2) ls (vr (mX M) :: st) (nw M 13 (ix x) (ix x)) Q := w1 hc hd rfl (by simp only [ex, e_nwa, if_pos hx])
theorem w_nwl {x : Int32} (hc : mC y = cc) (hd : decode cc pc = .ok (.newarray .long, 2)) (hx : ¬ x < 0 ∧ ix x ≤ 100000) : WP d y pc ls (vi x :: st) M Q = WP d y (pc + 2) ls (vr (mX M) :: st) (nw M 14 (ix x) (ix x)) Q := w1 hc hd rfl (by simp only [ex, e_nwa, if_pos hx])
theorem w_anw {i k : Nat} {x : Int32} (hc : mC y = cc) (hd : decode cc pc = .ok (.anewarray i, 3)) (hk : anT (mCl y) i = some k) (hx : ¬ x < 0 ∧ ix x ≤ 100000) : WP d y pc ls (vi x :: st) M Q = WP d y (pc + 3) ls (vr (mX M) :: st) (nw M k (ix x) (ix x)) Q := w1 hc hd rfl (by simp only [ex, e_anw, hk, if_pos hx])
theorem w_mnw {i : Nat} {x z : Int32} (hc : mC y = cc) (hd : decode cc pc = .ok (.multianewarray i 2, 4)) (hk : mnT (mCl y) i = true) (hx : ¬ x < 0 ∧ ix x ≤ 100000) (hz : ¬ z < 0 ∧ ix z ≤ 100000) : WP d y pc ls (vi z :: vi x :: st) M Q = WP d y (pc + 4) ls (vr (mX M) :: st) (nw2 M (ix x) (ix z)) Q :=
  w1 hc hd rfl (by simp only [ex, e_mnw, if_true]; rw [if_pos ⟨hk, hx.1, hx.2, hz.1, hz.2⟩])
theorem w_copyB {k a b : Nat} {sp dp q : Int32} (hc : mC y = cc) (hd : decode cc pc = .ok (.invokestatic k, 3)) (hz : sT (mCl y) k = none) (hz2 : nT (mCl y) k = none) (hb : biS (mCl y) k = some 0) (hl : szL st ≤ 8)
    (h1 : ¬ sp < 0 ∧ ¬ dp < 0 ∧ ¬ q < 0 ∧ ix sp + ix q ≤ mN M b ∧ ix dp + ix q ≤ mN M a ∧ a ≠ 1 ∧ b ≠ 1) (hk : mK M a = 18) (hk2 : mK M b = 18 ∨ mK M b = 19) : WP d y pc ls (vi q :: vi dp :: vr a :: vi sp :: vr b :: st) M Q = WP d y (pc + 3) ls st (cI M b (ix sp) a (ix dp) (ix q)) Q := by
  refine w_biS hc hd hz hz2 hb ?_
  simp only [e_bi]
  rw [if_pos ⟨h1.1, h1.2.1, h1.2.2.1, h1.2.2.2.1, h1.2.2.2.2.1, h1.2.2.2.2.2.1, h1.2.2.2.2.2.2, by rcases hk2 with hk2 | hk2 <;> rw [hk, hk2] <;> decide, hl⟩, if_pos (Or.inr hk2)]
theorem w_nwb {x : Int32} (hc : mC y = cc) (hd : decode cc pc = .ok (.newarray .byte, 2)) (hx : ¬ x < 0 ∧ ix x ≤ 100000) : WP d y pc ls (vi x :: st) M Q = WP d y (pc + 2) ls (vr (mX M) :: st) (nw M 18 (ix x) (ix x)) Q := w1 hc hd rfl (by simp only [ex, e_nwa, if_pos hx])
theorem w_areta {r : Nat} {nm : FieldType} (hc : mC y = cc) (hd : decode cc pc = .ok (.areturn, 1)) (ht : mT y = some (.array nm)) (hr : 2 ≤ r) : WP d y pc ls [vr r] M Q = Q (some (vr r)) M := w_fin hc hd rfl (by rw [ht]; simp only [fin]; rw [if_neg (by omega)])
theorem w_bret {x : Int32} (hc : mC y = cc) (hd : decode cc pc = .ok (.ireturn, 1)) (ht : mT y = some .byte) (hx : byV x = x) : WP d y pc ls [vi x] M Q = Q (some (vi x)) M := w_fin hc hd rfl (by rw [ht]; simp only [fin, if_pos hx])
theorem w_cret {x : Int32} (hc : mC y = cc) (hd : decode cc pc = .ok (.ireturn, 1)) (ht : mT y = some .char) (hx : x.toUInt32.toUInt16.toUInt32.toInt32 = x) : WP d y pc ls [vi x] M Q = Q (some (vi x)) M := w_fin hc hd rfl (by rw [ht]; simp only [fin, if_pos hx])
end R0
