/-! ===== the evaluator's instructions, second half: rows, new objects, kinds, switches ===== -/
theorem gv_cast : ∀ a, a ∈ [0, 1, 2, 5, 6, 7, 8, 10] → ∀ k, k ∈ [0, 1, 2, 5, 6, 7, 8, 10] → (a = 8 → k = 8) → (subK a k || k == 8) = true → a ≠ k → Cond.castable (clC a) (clC k) ∈ gvW := by decide +kernel
theorem okF8 {ci : Nat} (h : okF 8 ci = true) : ci ∈ [0, 1, 2, 5, 6, 7, 8, 10] := by
  unfold okF at h
  rw [if_pos rfl] at h
  simpa using h
section Ops2
variable {p : Program} {l : Launch} {e : Env} {R : Room} {s : State} {m : MethodId} {args : Array Value} {below : List Frame} {meth : Method} {c : Code} {H : Heap} {locs : List Loc} {cells slots : Nat} {Q : State → Prop}
variable {b base L : Nat} {xs : Nat → Int32} {D : va_G} {cA : Nat → ClassId} {y pc n : Nat} {La : Array Slot} {ls : Loc1} {st : List PV} {M : Mem} {t : St1}
theorem cell13 {r : Nat} (h : mK M r = 13) : cellE b base cA M r = .inl (cA 13, mN M r, .inl (mI M r)) := by
  unfold cellE; rw [h, if_neg (by omega), if_pos rfl]
theorem cell14 {r : Nat} (h : mK M r = 14) : cellE b base cA M r = .inl (cA 14, mN M r, .inr (.inl (mJ M r))) := by
  unfold cellE; rw [h, if_neg (by omega), if_neg (by omega), if_pos rfl]
theorem cellQ {r k : Nat} (h : mK M r = k) (h1 : 15 ≤ k) : cellE b base cA M r = .inl (cA k, mN M r, .inr (.inr (.inr (.inr (fun j => ro b base (mR M r j)))))) := by
  unfold cellE; rw [h, if_neg (by omega), if_neg (by omega), if_neg (by omega)]
theorem inb_vp {j : Int32} {N : Nat} (h : inb j N) : vp_in j N := fun q => q.elim h.1 (fun q => Nat.not_le.mpr h.2 q)
theorem so_iald (A : At1 p s m args meth c R y b base L xs D cA M H locs cells slots La ls) (hd : decode (mC y) pc = .ok (.iaload, 1))
    (he : e_iald y pc ls st M = some t) (K : KK p l e R s m args below meth c cells slots Q y b base L xs D cA M t) : W p l e R s m args below meth c H locs cells slots Q (F0 m pc La (st.map (rv b base))) := by
  obtain ⟨⟨hx, hb, -, hts, hown, hK, -, hscr, -, -⟩, hrel, hS, -, -, -⟩ := id A
  unfold e_iald at he
  split at he
  · rename_i j r st'
    split at he
    · rename_i hc
      cases he
      obtain ⟨hk, hj, h1⟩ := hc
      show W p l e R s m args below meth c H locs cells slots Q (F0 m pc La (.int j :: rv b base (vr r) :: st'.map (rv b base)))
      by_cases hr : r = 1
      · subst hr
        obtain ⟨hX, hbl, hbb⟩ := hscr (h1 rfl)
        obtain ⟨-, -, -, -, -, hn, hxs⟩ := hrel
        have e1 : rv b base (vr 1) = .ref b := rfl
        rw [e1]
        refine va_sld hx hb hX hbl (fun q => by omega) hS (inb_vp (by rw [← hn]; exact hj)) hd ?_
        have := K.stay A
        rwa [show (vi (mI M 1 (ix j)) :: st').map (rv b base) = .int (xs j.toNatClampNeg) :: st'.map (rv b base) by simp [rv, hxs]] at this
      · obtain ⟨h2, hrx⟩ := rel_addr hrel (r := r) (by omega) hr
        rw [rv_ref h2]
        have hg := ws_get (b := b) (base := base) (cA := cA) h2 hrx
        rw [cell13 hk] at hg
        exact va_iald hx hb hK hrel.1 (r - 2) 0 hg rfl (inb_vp hj) hd (K.stay A)
    · cases he
  · cases he
theorem so_iast (A : At1 p s m args meth c R y b base L xs D cA M H locs cells slots La ls) (hd : decode (mC y) pc = .ok (.iastore, 1))
    (he : e_iast pc ls st M = some t) (K : KK p l e R s m args below meth c cells slots Q y b base L xs D cA M t) : W p l e R s m args below meth c H locs cells slots Q (F0 m pc La (st.map (rv b base))) := by
  obtain ⟨⟨hx, hb, -, hts, hown, hK, -, -, -, -⟩, hrel, hS, -, -, -⟩ := id A
  unfold e_iast at he
  split at he
  · rename_i x j r st'
    split at he
    · rename_i hc
      cases he
      obtain ⟨hk, hj, hr⟩ := hc
      show W p l e R s m args below meth c H locs cells slots Q (F0 m pc La (.int x :: .int j :: rv b base (vr r) :: st'.map (rv b base)))
      obtain ⟨h2, hrx⟩ := rel_addr hrel (r := r) (by omega) hr
      rw [rv_ref h2]
      have hg := ws_get (b := b) (base := base) (cA := cA) h2 hrx
      rw [cell13 hk] at hg
      refine va_iast hx hb hK hrel.1 ws_D hS (r - 2) 0 hg rfl (inb_vp hj) hd (fun H1 locs1 hP1 _ hS1 => ?_)
      refine stored (M' := sI M r (ix j) x) A h2 hrx rfl rfl (fun _ => rfl) rfl (fun i => by simp [mI, sI, up2, show (1 : Nat) ≠ r by omega]) ?_ ?_ hP1 hS1 K
      · rw [cell13 (show mK (sI M r (ix j) x) r = 13 from hk)]
        congr 3
        show Sum.inl _ = Sum.inl _
        congr 1
        funext i
        simp [mI, sI, up2, upd]
      · intro q hq
        have e2 : mI (sI M r (ix j) x) q = mI M q := funext fun i => by simp [mI, sI, up2, hq]
        have e3 : fvE b base (sI M r (ix j) x) (mK M q) q = fvE b base M (mK M q) q := funext fun i => by unfold fvE; rw [e2]; rfl
        unfold cellE
        rw [show mK (sI M r (ix j) x) q = mK M q from rfl, e3, e2]; rfl
    · cases he
  · cases he
theorem so_lald (A : At1 p s m args meth c R y b base L xs D cA M H locs cells slots La ls) (hd : decode (mC y) pc = .ok (.laload, 1))
    (he : e_lald pc ls st M = some t) (K : KK p l e R s m args below meth c cells slots Q y b base L xs D cA M t) : W p l e R s m args below meth c H locs cells slots Q (F0 m pc La (st.map (rv b base))) := by
  obtain ⟨⟨hx, hb, -, hts, hown, hK, -, -, -, -⟩, hrel, hS, -, -, -⟩ := id A
  unfold e_lald at he
  split at he
  · rename_i j r st'
    split at he
    · rename_i hc
      cases he
      obtain ⟨hk, hj, hr⟩ := hc
      show W p l e R s m args below meth c H locs cells slots Q (F0 m pc La (.int j :: rv b base (vr r) :: st'.map (rv b base)))
      obtain ⟨h2, hrx⟩ := rel_addr hrel (r := r) (by omega) hr
      rw [rv_ref h2]
      have hg := ws_get (b := b) (base := base) (cA := cA) h2 hrx
      rw [cell14 hk] at hg
      exact va_lald hx hb hK hrel.1 (r - 2) 1 hg rfl (inb_vp hj) hd (K.stay A)
    · cases he
  · cases he
theorem so_last (A : At1 p s m args meth c R y b base L xs D cA M H locs cells slots La ls) (hd : decode (mC y) pc = .ok (.lastore, 1))
    (he : e_last pc ls st M = some t) (K : KK p l e R s m args below meth c cells slots Q y b base L xs D cA M t) : W p l e R s m args below meth c H locs cells slots Q (F0 m pc La (st.map (rv b base))) := by
  obtain ⟨⟨hx, hb, -, hts, hown, hK, -, -, -, -⟩, hrel, hS, -, -, -⟩ := id A
  unfold e_last at he
  split at he
  · rename_i x j r st'
    split at he
    · rename_i hc
      cases he
      obtain ⟨hk, hj, hr⟩ := hc
      show W p l e R s m args below meth c H locs cells slots Q (F0 m pc La (.long x :: .int j :: rv b base (vr r) :: st'.map (rv b base)))
      obtain ⟨h2, hrx⟩ := rel_addr hrel (r := r) (by omega) hr
      rw [rv_ref h2]
      have hg := ws_get (b := b) (base := base) (cA := cA) h2 hrx
      rw [cell14 hk] at hg
      refine va_last hx hb hK hrel.1 ws_D hS (r - 2) 1 hg rfl (inb_vp hj) hd (fun H1 locs1 hP1 _ hS1 => ?_)
      refine stored (M' := sJ M r (ix j) x) A h2 hrx rfl rfl (fun _ => rfl) rfl (fun i => rfl) ?_ ?_ hP1 hS1 K
      · rw [cell14 (show mK (sJ M r (ix j) x) r = 14 from hk)]
        have e : mJ (sJ M r (ix j) x) r = vp_updL (mJ M r) j.toNatClampNeg x := by
          funext i
          simp [mJ, sJ, up2, vp_updL]
        rw [e]; rfl
      · intro q hq
        have e2 : mJ (sJ M r (ix j) x) q = mJ M q := funext fun i => by simp [mJ, sJ, up2, hq]
        unfold cellE
        rw [show mK (sJ M r (ix j) x) q = mK M q from rfl, e2]; rfl
    · cases he
  · cases he
theorem so_aald (A : At1 p s m args meth c R y b base L xs D cA M H locs cells slots La ls) (hd : decode (mC y) pc = .ok (.aaload, 1))
    (he : e_aald pc ls st M = some t) (K : KK p l e R s m args below meth c cells slots Q y b base L xs D cA M t) : W p l e R s m args below meth c H locs cells slots Q (F0 m pc La (st.map (rv b base))) := by
  obtain ⟨⟨hx, hb, -, hts, hown, hK, -, -, -, -⟩, hrel, hS, -, -, -⟩ := id A
  unfold e_aald at he
  split at he
  · rename_i j r st'
    split at he
    · rename_i hc
      cases he
      obtain ⟨hk, hj, hr⟩ := hc
      show W p l e R s m args below meth c H locs cells slots Q (F0 m pc La (.int j :: rv b base (vr r) :: st'.map (rv b base)))
      obtain ⟨h2, hrx⟩ := rel_addr hrel (r := r) (by omega) hr
      rw [rv_ref h2]
      have hg := ws_get (b := b) (base := base) (cA := cA) h2 hrx
      have go : ∀ (k : Nat) (ty : FieldType) (t0 : Nat), mK M r = k → 15 ≤ k → (tysM cA)[t0]? = some (cA k, ty) → ty.isReference = true → W p l e R s m args below meth c H locs cells slots Q (F0 m pc La (.int j :: .ref (base + (r - 2)) :: st'.map (rv b base))) := by
        intro k ty t0 hk h15 ht hty
        rw [cellQ hk h15] at hg
        have hlt : j.toNatClampNeg < mN M r := hj.2
        refine W.aald (v := va_rf (ro b base (mR M r (ix j)))) (ty := ty) hx hb (hrel.1 _ _ hg) ((hK.2 t0 _ ht).1 (mN M r) (fun j => va_rf (ro b base (mR M r j)))) hty (fun q => by cases q) (by show ¬ (j < 0 ∨ (arrV _ _ _).slots.size ≤ _); rw [arrV_size]; exact inb_vp hj) (by show (arrV _ _ _).slots[_]? = _; rw [arrV_read _ _ hlt]) rfl rfl hd (K.stay A)
      rcases hk with hk | hk | hk
      · exact go 15 (.object RX8) 2 hk (by omega) rfl rfl
      · exact go 16 (.object RX9) 3 hk (by omega) rfl rfl
      · exact go 17 (.array .int) 4 hk (by omega) rfl rfl
    · cases he
  · cases he
theorem so_aast (A : At1 p s m args meth c R y b base L xs D cA M H locs cells slots La ls) (hd : decode (mC y) pc = .ok (.aastore, 1))
    (he : e_aast pc ls st M = some t) (K : KK p l e R s m args below meth c cells slots Q y b base L xs D cA M t) : W p l e R s m args below meth c H locs cells slots Q (F0 m pc La (st.map (rv b base))) := by
  obtain ⟨⟨hx, hb, -, hts, hown, hK, hgv, -, -, -⟩, hrel, hS, -, -, -⟩ := id A
  unfold e_aast at he
  split at he
  · rename_i q j r st'
    split at he
    · rename_i hc
      cases he
      obtain ⟨hk, hj, hr, hq1⟩ := hc
      show W p l e R s m args below meth c H locs cells slots Q (F0 m pc La (rv b base (vr q) :: .int j :: rv b base (vr r) :: st'.map (rv b base)))
      unfold okA at hk
      simp only [Bool.or_eq_true, Bool.and_eq_true, beq_iff_eq] at hk
      have hkq : mK M q < 13 := by
        rcases hk with ⟨-, h⟩ | ⟨-, h⟩
        · exact okF_lt (by omega) h
        · omega
      have hkr : 15 ≤ mK M r ∧ mK M r ≤ 16 := by rcases hk with ⟨h, -⟩ | ⟨h, -⟩ <;> omega
      obtain ⟨h2, hrx⟩ := rel_addr hrel (r := r) (by omega) hr
      obtain ⟨hq2, hqx⟩ := rel_obj hrel hkq
      rw [rv_ref h2, rv_ref hq2]
      have hg := ws_get (b := b) (base := base) (cA := cA) h2 hrx
      have hgq := ws_get (b := b) (base := base) (cA := cA) hq2 hqx
      rw [cellQ rfl hkr.1] at hg
      unfold cellE at hgq
      rw [if_pos hkq] at hgq
      obtain ⟨hcl, -, -, -, -⟩ := clf _ hkq
      have fin : ∀ (H1 : Heap) (locs1 : List Loc), va_P D vwCl ((wsM b base cA M).set (r - 2) (base + (r - 2), .inl (cA (mK M r), mN M r, .inr (.inr (.inr (.inr (va_up (fun j => ro b base (mR M r j)) j.toNatClampNeg (some (base + (q - 2)))))))))) H1 → va_S (fun q => base ≤ q) s.heap H1 locs1 →
          W p l e R s m args below meth c H1 locs1 cells slots Q (F0 m (pc + 1) La (st'.map (rv b base))) := by
        intro H1 locs1 hP1 hS1
        refine stored (M' := sR M r (ix j) q) A h2 hrx rfl rfl (fun _ => rfl) rfl (fun i => rfl) ?_ ?_ hP1 hS1 K
        · rw [cellQ (show mK (sR M r (ix j) q) r = mK M r from rfl) hkr.1]
          have e : (fun i => ro b base (mR (sR M r (ix j) q) r i)) = va_up (fun j => ro b base (mR M r j)) j.toNatClampNeg (some (base + (q - 2))) := by
            funext i
            unfold va_up
            by_cases hi : i = j.toNatClampNeg
            · subst hi; simp [mR, sR, up2, ← ro_some (b := b) (base := base) hq2]
            · simp [mR, sR, up2, hi]
          rw [e]; rfl
        · intro q' hq'
          have e2 : mR (sR M r (ix j) q) q' = mR M q' := funext fun i => by simp [mR, sR, up2, hq']
          have e3 : fvE b base (sR M r (ix j) q) (mK M q') q' = fvE b base M (mK M q') q' := funext fun i => by unfold fvE; rw [e2]; rfl
          unfold cellE
          rw [show mK (sR M r (ix j) q) q' = mK M q' from rfl, e3, e2]; rfl
      rcases hk with ⟨hk1, hk2⟩ | ⟨hk1, hk2⟩
      · rw [hk1] at hg fin
        by_cases h8 : mK M q = 8
        · rw [h8] at hgq hcl
          exact va_astq hx hb hK hrel.1 ws_D hS (r - 2) 2 (q - 2) 8 hg rfl hgq hcl (inb_vp hj) hd (fun H1 locs1 hP1 _ hS1 => fin H1 locs1 hP1 hS1)
        · have hcast := hgv.1 _ (gv_cast (mK M q) (okF8 hk2) 8 (by decide) (fun h => rfl) (by simp) h8)
          exact va_astqO hx hb hK hrel.1 ws_D hS (r - 2) 2 (q - 2) (mK M q) hg rfl hcast hgq hcl (inb_vp hj) hd (fun H1 locs1 hP1 _ hS1 => fin H1 locs1 hP1 hS1)
      · rw [hk1] at hg fin
        rw [hk2] at hgq hcl
        exact va_astq hx hb hK hrel.1 ws_D hS (r - 2) 3 (q - 2) 9 hg rfl hgq hcl (inb_vp hj) hd (fun H1 locs1 hP1 _ hS1 => fin H1 locs1 hP1 hS1)
    · cases he
  · cases he
theorem so_alen (A : At1 p s m args meth c R y b base L xs D cA M H locs cells slots La ls) (hd : decode (mC y) pc = .ok (.arraylength, 1))
    (he : e_alen y pc ls st M = some t) (K : KK p l e R s m args below meth c cells slots Q y b base L xs D cA M t) : W p l e R s m args below meth c H locs cells slots Q (F0 m pc La (st.map (rv b base))) := by
  obtain ⟨⟨hx, hb, -, hts, hown, hK, -, hscr, -, -⟩, hrel, hS, -, -, -⟩ := id A
  unfold e_alen at he
  split at he
  · rename_i r st'
    split at he
    · rename_i hc
      cases he
      obtain ⟨hk1, hk2, h1⟩ := hc
      show W p l e R s m args below meth c H locs cells slots Q (F0 m pc La (rv b base (vr r) :: st'.map (rv b base)))
      by_cases hr : r = 1
      · subst hr
        obtain ⟨hX, hbl, hbb⟩ := hscr (h1 rfl)
        obtain ⟨-, -, -, -, -, hn, hxs⟩ := hrel
        have e1 : rv b base (vr 1) = .ref b := rfl
        rw [e1]
        have := K.stay A
        rw [show (vi (Int32.ofNat (mN M 1)) :: st').map (rv b base) = .int (Int32.ofNat L) :: st'.map (rv b base) by simp [rv, hn]] at this
        exact va_slen hx hb hX hbl (fun q => by omega) hS hd this
      · obtain ⟨h2, hrx⟩ := rel_addr hrel (r := r) (by omega) hr
        rw [rv_ref h2]
        have hg := ws_get (b := b) (base := base) (cA := cA) h2 hrx
        have hk : mK M r = 13 ∨ mK M r = 14 ∨ mK M r = 15 ∨ mK M r = 16 ∨ mK M r = 17 := by omega
        rcases hk with hk | hk | hk | hk | hk
        · rw [cell13 hk] at hg; exact va_alen hx hb hK hrel.1 (r - 2) 0 hg (ty := .int) rfl rfl hd (K.stay A)
        · rw [cell14 hk] at hg; exact va_alen hx hb hK hrel.1 (r - 2) 1 hg (ty := .long) rfl rfl hd (K.stay A)
        · rw [cellQ hk (by omega)] at hg; exact va_alen hx hb hK hrel.1 (r - 2) 2 hg (ty := .object RX8) rfl rfl hd (K.stay A)
        · rw [cellQ hk (by omega)] at hg; exact va_alen hx hb hK hrel.1 (r - 2) 3 hg (ty := .object RX9) rfl rfl hd (K.stay A)
        · rw [cellQ hk (by omega)] at hg; exact va_alen hx hb hK hrel.1 (r - 2) 4 hg (ty := .array .int) rfl rfl hd (K.stay A)
    · cases he
  · cases he
end Ops2
