/-! ===== the evaluator's instructions, second half: rows ===== -/
theorem up2_self {α : Type} {f : Nat → Nat → α} {a i : Nat} {v : α} : up2 f a i v a i = v := by simp [up2]
theorem byV_byV (x : Int32) : byV (byV x) = byV x := by
  show x.toInt8.toInt32.toInt8.toInt32 = x.toInt8.toInt32
  rw [Int8.toInt8_toInt32]
section Ops2
variable {p : Program} {l : Launch} {e : Env} {R : Room} {s : State} {m : MethodId} {args : Array Value} {below : List Frame} {meth : Method} {c : Code} {H : Heap} {locs : List Loc} {cells slots : Nat} {Q : State → Prop}
variable {π : Par} {L : Nat} {xs : Nat → Int32} {D : va_G} {cA : Nat → ClassId} {y pc n : Nat} {La : Array Slot} {ls : Loc1} {st : List PV} {M : Mem} {t : St1}
theorem cell13 {r : Nat} (h : mK M r = 13) : cellE π cA M r = .inl (cA 13, mN M r, .inl (mI M r)) := by
  unfold cellE; rw [h, if_neg (by omega), if_pos rfl]
theorem cell14 {r : Nat} (h : mK M r = 14) : cellE π cA M r = .inl (cA 14, mN M r, .inr (.inl (mJ M r))) := by
  unfold cellE; rw [h, if_neg (by omega), if_neg (by omega), if_pos rfl]
theorem cell18 {r : Nat} (h : mK M r = 18) : cellE π cA M r = .inl (cA 18, mN M r, .inl (mI M r)) := by
  unfold cellE; rw [h, if_neg (by omega), if_neg (by omega), if_neg (by omega), if_pos rfl]
theorem cellQ {r k : Nat} (h : mK M r = k) (h1 : 15 ≤ k) (h2 : k ≠ 18) : cellE π cA M r = .inl (cA k, mN M r, .inr (.inr (.inr (.inr (fun j => ro π (mR M r j)))))) := by
  unfold cellE; rw [h, if_neg (by omega), if_neg (by omega), if_neg (by omega), if_neg h2]
theorem inb_vp {j : Int32} {N : Nat} (h : inb j N) : vp_in j N := fun q => q.elim h.1 (fun q => Nat.not_le.mpr h.2 q)
theorem sI_oth {r i q : Nat} {v : Int32} (hq : q ≠ r) : mI (sI M r i v) q = mI M q := funext fun k => by simp [mI, sI, up2, hq]
theorem sI_cell {r i q : Nat} {v : Int32} (hq : q ≠ r) : cellE π cA (sI M r i v) q = cellE π cA M q := by
  have e2 : mI (sI M r i v) q = mI M q := sI_oth hq
  have e3 : fvE π (sI M r i v) (mK M q) q = fvE π M (mK M q) q := funext fun i => by unfold fvE; rw [e2]; rfl
  unfold cellE
  rw [show mK (sI M r i v) q = mK M q from rfl, e3, e2]; rfl
/-- where a constant row of bytes lies -/
theorem const_bytes (hrel : Rel π D cA L xs M H) (hks : KS π L xs s s.heap) {r : Nat} (hk : mK M r = 19) : ∃ (o : Nat) (f : Nat → Int32), r = kA + o ∧ va_T .byte (pK π o) (mN M r) (fun j => .int (f j)) (fun q => pA π ≤ q) s s.heap ∧ ∀ j, mI M r j = f j := by
  obtain ⟨o, rfl⟩ := kA_of (hrel.2.2.2.2.2.2.2.1.2 r (Or.inl hk))
  obtain ⟨c1, c2, c3, c4⟩ := hrel.2.2.2.2.2.2.2.1.1 o
  rw [c1] at hk
  rw [c2]
  by_cases h32 : o < 32
  · unfold mKc at hk
    rw [if_pos h32] at hk
    have h2 : ¬ o % 2 = 0 := fun h => by rw [if_pos h] at hk; omega
    obtain ⟨i, rfl⟩ : ∃ i, o = 2 * i + 1 := ⟨o / 2, by omega⟩
    have hi : i < 16 := by omega
    refine ⟨_, fun j => (bytJ.getD i []).getD j 0, rfl, ?_, fun j => ?_⟩
    · unfold mNc
      rw [if_pos h32, if_neg h2, show (2 * i + 1) / 2 = i by omega]
      exact (hks.2.1.1 i hi).2.2.2
    · rw [c3 j]; unfold mIc
      rw [if_pos h32, if_neg h2, show (2 * i + 1) / 2 = i by omega]
  · unfold mKc at hk
    rw [if_neg h32] at hk
    have ho : o = 40 ∨ o = 41 := by
      by_cases h : o = 40 ∨ o = 41
      · exact h
      · rw [if_neg h] at hk; omega
    rcases ho with rfl | rfl
    · exact ⟨40, fun j => dgO.getD j 0, rfl, hks.2.2.1, fun j => by rw [c3 j]; rfl⟩
    · exact ⟨41, fun j => dgT.getD j 0, rfl, hks.2.2.2.1, fun j => by rw [c3 j]; rfl⟩
theorem so_iald (A : At1 p s m args meth c R y π L xs D cA M H locs cells slots La ls) (hd : decode (mC y) pc = .ok (.iaload, 1))
    (he : e_iald pc ls st M = some t) (K : KK p l e R s m args below meth c cells slots Q y π L xs D cA M t) : W p l e R s m args below meth c H locs cells slots Q (F0 m pc La (st.map (rv π))) := by
  obtain ⟨⟨hx, hb, -, hts, hown, hK, -, hks, -, -⟩, hrel, hS, -, -, -⟩ := id A
  unfold e_iald at he
  split at he
  · rename_i j r st'
    split at he
    · rename_i hc
      cases he
      obtain ⟨hk, hj⟩ := hc
      show W p l e R s m args below meth c H locs cells slots Q (F0 m pc La (.int j :: rv π (vr r) :: st'.map (rv π)))
      by_cases hr : r = 1
      · subst hr
        obtain ⟨hX, hbl, hbb⟩ := hks.1
        obtain ⟨-, -, -, -, -, hn, hxs, -⟩ := hrel
        have e1 : rv π (vr 1) = .ref (pB π) := rfl
        rw [e1]
        refine va_sld hx hb hX hbl (A := fun q => pA π ≤ q) (fun q => by omega) hS (inb_vp (by rw [← hn]; exact hj)) hd ?_
        have := K.stay A
        rwa [show (vi (mI M 1 (ix j)) :: st').map (rv π) = .int (xs j.toNatClampNeg) :: st'.map (rv π) by simp [rv, hxs]] at this
      · obtain ⟨h2, hrx, hrk⟩ := rel_addr hrel (r := r) (by omega) hr
        rw [rv_ref h2 hrk]
        have hg := ws_get (π := π) (cA := cA) h2 hrx
        rw [cell13 hk] at hg
        exact va_iald hx hb hK hrel.1 (pL π r) 0 hg rfl (inb_vp hj) hd (K.stay A)
    · cases he
  · cases he
theorem so_bald (A : At1 p s m args meth c R y π L xs D cA M H locs cells slots La ls) (hd : decode (mC y) pc = .ok (.baload, 1))
    (he : e_bald pc ls st M = some t) (K : KK p l e R s m args below meth c cells slots Q y π L xs D cA M t) : W p l e R s m args below meth c H locs cells slots Q (F0 m pc La (st.map (rv π))) := by
  obtain ⟨⟨hx, hb, -, hts, hown, hK, -, hks, -, -⟩, hrel, hS, -, -, -⟩ := id A
  unfold e_bald at he
  split at he
  · rename_i j r st'
    split at he
    · rename_i hc
      cases he
      obtain ⟨hk, hj⟩ := hc
      show W p l e R s m args below meth c H locs cells slots Q (F0 m pc La (.int j :: rv π (vr r) :: st'.map (rv π)))
      rcases hk with hk | hk
      · obtain ⟨h2, hrx, hrk⟩ := rel_addr hrel (r := r) (by omega) (fun h => by have := hrel.2.2.2.2.1; rw [h] at hk; omega)
        rw [rv_ref h2 hrk]
        have hg := ws_get (π := π) (cA := cA) h2 hrx
        rw [cell18 hk] at hg
        exact va_bald hx hb hK hrel.1 (pL π r) 5 hg rfl (inb_vp hj) hd (K.stay A)
      · obtain ⟨o, f, rfl, hT, hf⟩ := const_bytes hrel hks hk
        rw [rv_k]
        refine va_tb hx hb hT hS (inb_vp hj) (v := .int (f (ix j))) rfl hd ?_
        have := K.stay A
        rwa [show (vi (mI M (kA + o) (ix j)) :: st').map (rv π) = .int (f (ix j)) :: st'.map (rv π) by simp [rv, hf]] at this
    · cases he
  · cases he
theorem so_iast (A : At1 p s m args meth c R y π L xs D cA M H locs cells slots La ls) (hd : decode (mC y) pc = .ok (.iastore, 1))
    (he : e_iast pc ls st M = some t) (K : KK p l e R s m args below meth c cells slots Q y π L xs D cA M t) : W p l e R s m args below meth c H locs cells slots Q (F0 m pc La (st.map (rv π))) := by
  obtain ⟨⟨hx, hb, -, hts, hown, hK, -, -, -, -⟩, hrel, hS, -, -, -⟩ := id A
  have hga := hrel.2.2.2.2.2.2.2.2.2
  unfold e_iast at he
  split at he
  · rename_i x j r st'
    split at he
    · rename_i hc
      cases he
      obtain ⟨hk, hj, hr⟩ := hc
      show W p l e R s m args below meth c H locs cells slots Q (F0 m pc La (.int x :: .int j :: rv π (vr r) :: st'.map (rv π)))
      obtain ⟨h2, hrx, hrk⟩ := rel_addr hrel (r := r) (by omega) hr
      rw [rv_ref h2 hrk]
      have hg := ws_get (π := π) (cA := cA) h2 hrx
      rw [cell13 hk] at hg
      refine va_iast hx hb hK hrel.1 (ws_D hga) hS (pL π r) 0 hg rfl (inb_vp hj) hd (fun H1 locs1 hP1 _ hS1 => ?_)
      refine stored (M' := sI M r (ix j) x) A h2 hrx rfl rfl (fun _ => rfl) (fun _ => rfl) (fun q hq => sI_oth hq) (fun _ _ => rfl) (fun h => by omega) ?_ (fun q hq => sI_cell hq) hP1 hS1 K
      rw [cell13 (show mK (sI M r (ix j) x) r = 13 from hk)]
      congr 3
      show Sum.inl _ = Sum.inl _
      congr 1
      funext i
      simp [mI, sI, up2, upd]
    · cases he
  · cases he
theorem so_bast (A : At1 p s m args meth c R y π L xs D cA M H locs cells slots La ls) (hd : decode (mC y) pc = .ok (.bastore, 1))
    (he : e_bast pc ls st M = some t) (K : KK p l e R s m args below meth c cells slots Q y π L xs D cA M t) : W p l e R s m args below meth c H locs cells slots Q (F0 m pc La (st.map (rv π))) := by
  obtain ⟨⟨hx, hb, -, hts, hown, hK, -, -, -, -⟩, hrel, hS, -, -, -⟩ := id A
  have hga := hrel.2.2.2.2.2.2.2.2.2
  have hby := hrel.2.2.2.2.2.2.2.2.1
  unfold e_bast at he
  split at he
  · rename_i x j r st'
    split at he
    · rename_i hc
      cases he
      obtain ⟨hk, hj⟩ := hc
      show W p l e R s m args below meth c H locs cells slots Q (F0 m pc La (.int x :: .int j :: rv π (vr r) :: st'.map (rv π)))
      obtain ⟨h2, hrx, hrk⟩ := rel_addr hrel (r := r) (by omega) (fun h => by have := hrel.2.2.2.2.1; rw [h] at hk; omega)
      rw [rv_ref h2 hrk]
      have hg := ws_get (π := π) (cA := cA) h2 hrx
      rw [cell18 hk] at hg
      refine va_bast hx hb hK hrel.1 (ws_D hga) hS (pL π r) 5 hg rfl (inb_vp hj) hd (fun H1 locs1 hP1 _ hS1 => ?_)
      refine stored (M' := sI M r (ix j) (byV x)) A h2 hrx rfl rfl (fun _ => rfl) (fun _ => rfl) (fun q hq => sI_oth hq) (fun _ _ => rfl) (fun h i => ?_) ?_ (fun q hq => sI_cell hq) hP1 hS1 K
      · by_cases hi : i = ix j
        · subst hi
          have e : mI (sI M r (ix j) (byV x)) r (ix j) = byV x := up2_self
          rw [e]; exact byV_byV x
        · have e : mI (sI M r (ix j) (byV x)) r i = mI M r i := by simp [mI, sI, up2, hi]
          rw [e]; exact hby r hk i
      · rw [cell18 (show mK (sI M r (ix j) (byV x)) r = 18 from hk)]
        congr 3
        show Sum.inl _ = Sum.inl _
        congr 1
        funext i
        rw [vp_nar_byte]
        simp [mI, sI, up2, upd]
    · cases he
  · cases he
theorem so_lald (A : At1 p s m args meth c R y π L xs D cA M H locs cells slots La ls) (hd : decode (mC y) pc = .ok (.laload, 1))
    (he : e_lald pc ls st M = some t) (K : KK p l e R s m args below meth c cells slots Q y π L xs D cA M t) : W p l e R s m args below meth c H locs cells slots Q (F0 m pc La (st.map (rv π))) := by
  obtain ⟨⟨hx, hb, -, hts, hown, hK, -, -, -, -⟩, hrel, hS, -, -, -⟩ := id A
  unfold e_lald at he
  split at he
  · rename_i j r st'
    split at he
    · rename_i hc
      cases he
      obtain ⟨hk, hj, hr⟩ := hc
      show W p l e R s m args below meth c H locs cells slots Q (F0 m pc La (.int j :: rv π (vr r) :: st'.map (rv π)))
      obtain ⟨h2, hrx, hrk⟩ := rel_addr hrel (r := r) (by omega) hr
      rw [rv_ref h2 hrk]
      have hg := ws_get (π := π) (cA := cA) h2 hrx
      rw [cell14 hk] at hg
      exact va_lald hx hb hK hrel.1 (pL π r) 1 hg rfl (inb_vp hj) hd (K.stay A)
    · cases he
  · cases he
theorem so_last (A : At1 p s m args meth c R y π L xs D cA M H locs cells slots La ls) (hd : decode (mC y) pc = .ok (.lastore, 1))
    (he : e_last pc ls st M = some t) (K : KK p l e R s m args below meth c cells slots Q y π L xs D cA M t) : W p l e R s m args below meth c H locs cells slots Q (F0 m pc La (st.map (rv π))) := by
  obtain ⟨⟨hx, hb, -, hts, hown, hK, -, -, -, -⟩, hrel, hS, -, -, -⟩ := id A
  have hga := hrel.2.2.2.2.2.2.2.2.2
  unfold e_last at he
  split at he
  · rename_i x j r st'
    split at he
    · rename_i hc
      cases he
      obtain ⟨hk, hj, hr⟩ := hc
      show W p l e R s m args below meth c H locs cells slots Q (F0 m pc La (.long x :: .int j :: rv π (vr r) :: st'.map (rv π)))
      obtain ⟨h2, hrx, hrk⟩ := rel_addr hrel (r := r) (by omega) hr
      rw [rv_ref h2 hrk]
      have hg := ws_get (π := π) (cA := cA) h2 hrx
      rw [cell14 hk] at hg
      refine va_last hx hb hK hrel.1 (ws_D hga) hS (pL π r) 1 hg rfl (inb_vp hj) hd (fun H1 locs1 hP1 _ hS1 => ?_)
      refine stored (M' := sJ M r (ix j) x) A h2 hrx rfl rfl (fun _ => rfl) (fun _ => rfl) (fun _ _ => rfl) (fun _ _ => rfl) (fun h => by omega) ?_ ?_ hP1 hS1 K
      · rw [cell14 (show mK (sJ M r (ix j) x) r = 14 from hk)]
        have e : mJ (sJ M r (ix j) x) r = vp_updL (mJ M r) j.toNatClampNeg x := by
          funext i
          simp [mJ, sJ, up2, vp_updL]
        rw [e]; rfl
      · intro q hq
        have e2 : mJ (sJ M r (ix j) x) q = mJ M q := funext fun i => by simp [mJ, sJ, up2, hq]
        unfold cellE
        rw [show mK (sJ M r (ix j) x) q = mK M q from rfl, e2]; rfl
    · cases he
  · cases he
theorem so_aald (A : At1 p s m args meth c R y π L xs D cA M H locs cells slots La ls) (hd : decode (mC y) pc = .ok (.aaload, 1))
    (he : e_aald pc ls st M = some t) (K : KK p l e R s m args below meth c cells slots Q y π L xs D cA M t) : W p l e R s m args below meth c H locs cells slots Q (F0 m pc La (st.map (rv π))) := by
  obtain ⟨⟨hx, hb, -, hts, hown, hK, -, -, -, -⟩, hrel, hS, -, -, -⟩ := id A
  unfold e_aald at he
  split at he
  · rename_i j r st'
    split at he
    · rename_i hc
      cases he
      obtain ⟨hk, hj, hr⟩ := hc
      show W p l e R s m args below meth c H locs cells slots Q (F0 m pc La (.int j :: rv π (vr r) :: st'.map (rv π)))
      obtain ⟨h2, hrx, hrk⟩ := rel_addr hrel (r := r) (by omega) hr
      rw [rv_ref h2 hrk]
      have hg := ws_get (π := π) (cA := cA) h2 hrx
      have go : ∀ (k : Nat) (ty : FieldType) (t0 : Nat), mK M r = k → 15 ≤ k → k ≠ 18 → (tysM cA)[t0]? = some (cA k, ty) → ty.isReference = true → W p l e R s m args below meth c H locs cells slots Q (F0 m pc La (.int j :: .ref (pE π + (r - 2)) :: st'.map (rv π))) := by
        intro k ty t0 hk h15 h18 ht hty
        rw [cellQ hk h15 h18] at hg
        have hlt : j.toNatClampNeg < mN M r := hj.2
        refine W.aald (v := va_rf (ro π (mR M r (ix j)))) (ty := ty) hx hb (hrel.1 _ _ hg) ((hK.2 t0 _ ht).1 (mN M r) (fun j => va_rf (ro π (mR M r j)))) hty (fun q => by cases q) (by show ¬ (j < 0 ∨ (arrV _ _ _).slots.size ≤ _); rw [arrV_size]; exact inb_vp hj) (by show (arrV _ _ _).slots[_]? = _; rw [arrV_read _ _ hlt]) rfl rfl hd (K.stay A)
      rcases hk with hk | hk | hk
      · exact go 15 (.object RX8) 2 hk (by omega) (by omega) rfl rfl
      · exact go 16 (.object RX9) 3 hk (by omega) (by omega) rfl rfl
      · exact go 17 (.array .int) 4 hk (by omega) (by omega) rfl rfl
    · cases he
  · cases he
theorem so_aast (A : At1 p s m args meth c R y π L xs D cA M H locs cells slots La ls) (hd : decode (mC y) pc = .ok (.aastore, 1))
    (he : e_aast pc ls st M = some t) (K : KK p l e R s m args below meth c cells slots Q y π L xs D cA M t) : W p l e R s m args below meth c H locs cells slots Q (F0 m pc La (st.map (rv π))) := by
  obtain ⟨⟨hx, hb, -, hts, hown, hK, hgv, -, -, -⟩, hrel, hS, -, -, -⟩ := id A
  have hga := hrel.2.2.2.2.2.2.2.2.2
  unfold e_aast at he
  split at he
  · rename_i q j r st'
    split at he
    · rename_i hc
      cases he
      obtain ⟨hk, hj, hr, hq1⟩ := hc
      show W p l e R s m args below meth c H locs cells slots Q (F0 m pc La (rv π (vr q) :: .int j :: rv π (vr r) :: st'.map (rv π)))
      unfold okA at hk
      simp only [Bool.and_eq_true, beq_iff_eq] at hk
      obtain ⟨hk1, hk2⟩ := hk
      obtain ⟨h2, hrx, hrk⟩ := rel_addr hrel (r := r) (by omega) hr
      obtain ⟨hq2, hqx, hqk⟩ := rel_obj hrel (r := q) (by omega)
      rw [rv_ref h2 hrk, rv_ref hq2 hqk]
      have hg := ws_get (π := π) (cA := cA) h2 hrx
      have hgq := ws_get (π := π) (cA := cA) hq2 hqx
      rw [cellQ hk1 (by omega) (by omega)] at hg
      unfold cellE at hgq
      rw [if_pos (by omega), hk2] at hgq
      obtain ⟨hcl, -, -, -, -⟩ := clf 9 (by decide)
      refine va_astq hx hb hK hrel.1 (ws_D hga) hS (pL π r) 3 (pL π q) 9 hg rfl hgq hcl (inb_vp hj) hd (fun H1 locs1 hP1 _ hS1 => ?_)
      refine stored (M' := sR M r (ix j) q) A h2 hrx rfl rfl (fun _ => rfl) (fun _ => rfl) (fun _ _ => rfl) (fun q' hq' => funext fun i => by simp [mR, sR, up2, hq']) (fun h => by omega) ?_ ?_ hP1 hS1 K
      · rw [cellQ (show mK (sR M r (ix j) q) r = 16 from hk1) (by omega) (by omega)]
        have e : (fun i => ro π (mR (sR M r (ix j) q) r i)) = va_up (fun j => ro π (mR M r j)) j.toNatClampNeg (some (pE π + (q - 2))) := by
          funext i
          unfold va_up
          by_cases hi : i = j.toNatClampNeg
          · subst hi; simp [mR, sR, up2, ← ro_some (π := π) hq2 hqk]
          · simp [mR, sR, up2, hi]
        rw [e]; rfl
      · intro q' hq'
        have e2 : mR (sR M r (ix j) q) q' = mR M q' := funext fun i => by simp [mR, sR, up2, hq']
        have e3 : fvE π (sR M r (ix j) q) (mK M q') q' = fvE π M (mK M q') q' := funext fun i => by unfold fvE; rw [e2]; rfl
        unfold cellE
        rw [show mK (sR M r (ix j) q) q' = mK M q' from rfl, e3, e2]; rfl
    · cases he
  · cases he
theorem so_alen (A : At1 p s m args meth c R y π L xs D cA M H locs cells slots La ls) (hd : decode (mC y) pc = .ok (.arraylength, 1))
    (he : e_alen pc ls st M = some t) (K : KK p l e R s m args below meth c cells slots Q y π L xs D cA M t) : W p l e R s m args below meth c H locs cells slots Q (F0 m pc La (st.map (rv π))) := by
  obtain ⟨⟨hx, hb, -, hts, hown, hK, -, hks, -, -⟩, hrel, hS, -, -, -⟩ := id A
  unfold e_alen at he
  split at he
  · rename_i r st'
    split at he
    · rename_i hc
      cases he
      obtain ⟨hk1, hk2⟩ := hc
      show W p l e R s m args below meth c H locs cells slots Q (F0 m pc La (rv π (vr r) :: st'.map (rv π)))
      by_cases hr : r = 1
      · subst hr
        obtain ⟨hX, hbl, hbb⟩ := hks.1
        obtain ⟨-, -, -, -, -, hn, hxs, -⟩ := hrel
        have e1 : rv π (vr 1) = .ref (pB π) := rfl
        rw [e1]
        have := K.stay A
        rw [show (vi (Int32.ofNat (mN M 1)) :: st').map (rv π) = .int (Int32.ofNat L) :: st'.map (rv π) by simp [rv, hn]] at this
        exact va_slen hx hb hX hbl (A := fun q => pA π ≤ q) (fun q => by omega) hS hd this
      · by_cases h19 : mK M r = 19
        · obtain ⟨o, f, rfl, hT, hf⟩ := const_bytes hrel hks h19
          rw [rv_k]
          exact va_tlen hx hb hT hS rfl hd (K.stay A)
        · obtain ⟨h2, hrx, hrk⟩ := rel_addr hrel (r := r) (by omega) hr
          rw [rv_ref h2 hrk]
          have hg := ws_get (π := π) (cA := cA) h2 hrx
          have hk : mK M r = 13 ∨ mK M r = 14 ∨ mK M r = 15 ∨ mK M r = 16 ∨ mK M r = 17 ∨ mK M r = 18 := by omega
          rcases hk with hk | hk | hk | hk | hk | hk
          · rw [cell13 hk] at hg; exact va_alen hx hb hK hrel.1 (pL π r) 0 hg (ty := .int) rfl rfl hd (K.stay A)
          · rw [cell14 hk] at hg; exact va_alen hx hb hK hrel.1 (pL π r) 1 hg (ty := .long) rfl rfl hd (K.stay A)
          · rw [cellQ hk (by omega) (by omega)] at hg; exact va_alen hx hb hK hrel.1 (pL π r) 2 hg (ty := .object RX8) rfl rfl hd (K.stay A)
          · rw [cellQ hk (by omega) (by omega)] at hg; exact va_alen hx hb hK hrel.1 (pL π r) 3 hg (ty := .object RX9) rfl rfl hd (K.stay A)
          · rw [cellQ hk (by omega) (by omega)] at hg; exact va_alen hx hb hK hrel.1 (pL π r) 4 hg (ty := .array .int) rfl rfl hd (K.stay A)
          · rw [cell18 hk] at hg; exact va_alen hx hb hK hrel.1 (pL π r) 5 hg (ty := .byte) rfl rfl hd (K.stay A)
    · cases he
  · cases he
end Ops2
