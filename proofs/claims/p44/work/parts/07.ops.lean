/-! ===== each instruction of the evaluator is the machine's ===== -/
theorem irem_eq (a b : Int32) : a - a / b * b = a % b := by
  apply Int32.toInt_inj.mp
  rw [Int32.toInt_sub, Int32.toInt_mul, Int32.toInt_div, Int32.toInt_mod]
  have h1 : (a.toInt - (((a.toInt.tdiv b.toInt).bmod (2 ^ 32)) * b.toInt).bmod (2 ^ 32)).bmod (2 ^ 32) = (a.toInt - (a.toInt.tdiv b.toInt) * b.toInt).bmod (2 ^ 32) := by
    rw [Int.sub_bmod_bmod, ← Int.sub_bmod_bmod, Int.bmod_mul_bmod, Int.sub_bmod_bmod]
  rw [h1]
  have h2 : a.toInt - (a.toInt.tdiv b.toInt) * b.toInt = a.toInt.tmod b.toInt := by
    rw [Int.tmod_def, Int.mul_comm]
  rw [h2, ← Int32.toInt_mod]
  have h3 := Int32.le_toInt (a % b)
  have h4 := Int32.toInt_lt (a % b)
  exact Int.bmod_eq_of_le (by omega) (by omega)
def GV (s : State) : Prop := (∀ w ∈ gvW, va_Nw w s) ∧ va_AO RX8 s ∧ va_AO RX9 s ∧ (Jvm.Cond.arrayOver (.array .int)).before #[] s = true
/-- the host's constants, the script, as they stand ahead of all cells that are written -/
def KS (π : Par) (L : Nat) (xs : Nat → Int32) (U : State) (H : Heap) : Prop :=
  (va_X (pB π) L xs U H ∧ pB π < H.size ∧ pB π < pA π) ∧ vk_S 16 lenJ bytJ (fun i => pK π (2 * i)) (fun i => pK π (2 * i + 1)) (fun q => pA π ≤ q) U H ∧
  va_T .byte (pK π 40) 100 (fun j => .int (dgO.getD j 0)) (fun q => pA π ≤ q) U H ∧ va_T .byte (pK π 41) 100 (fun j => .int (dgT.getD j 0)) (fun q => pA π ≤ q) U H ∧
  va_Z "java/lang/String" "COMPACT_STRINGS" "Z" (.int 1) (fun q => pA π ≤ q) U H ∧ va_Z "java/lang/Integer" "DigitOnes" "[B" (.ref (pK π 40)) (fun q => pA π ≤ q) U H ∧ va_Z "java/lang/Integer" "DigitTens" "[B" (.ref (pK π 41)) (fun q => pA π ≤ q) U H ∧
  va_Z "jdk/internal/util/Preconditions" "SIOOBE_FORMATTER" "Ljava/util/function/BiFunction;" (va_rf (if pF π = 0 then none else some (pK π 42))) (fun q => pA π ≤ q) U H ∧
  ∀ i, i < 16 → vk_R RL (strE.getD i 0) (strX.getD i "") (pK π (2 * i)) U
theorem KS.kept {π : Par} {L : Nat} {xs : Nat → Int32} {U : State} {H H1 : Heap} (h : KS π L xs U H) (hs : H.size ≤ H1.size) (hq : ∀ a : Nat, a < H.size → ¬ (pA π ≤ a) → H1[a]? = H[a]?) : KS π L xs U H1 := by
  obtain ⟨⟨h1, h2, h3⟩, h4, h5, h6, h7, h8, h9, h10, h11⟩ := h
  exact ⟨⟨h1.kept (hq _ h2 (by omega)), Nat.lt_of_lt_of_le h2 hs, h3⟩, h4.kept hq, h5.kept hq, h6.kept hq, h7.kept hq, h8.kept hq, h9.kept hq, h10.kept hq, h11⟩
theorem KS.warm {π : Par} {L : Nat} {xs : Nat → Int32} {s U : State} {H : Heap} (hW : s.WarmedH U.vm) (h : KS π L xs s H) : KS π L xs U H := by
  obtain ⟨⟨h1, h2, h3⟩, h4, h5, h6, h7, h8, h9, h10, h11⟩ := h
  have hA := hW.alike
  exact ⟨⟨h1.moved hA, h2, h3⟩, h4.moved hA, h5.moved hA, h6.moved hA, h7.moved hA, h8.moved hA, h9.moved hA, h10.moved hA, fun i hi => vk_R.warm hW (h11 i hi)⟩
theorem KS.same {π : Par} {L : Nat} {xs : Nat → Int32} {s U : State} {H : Heap} (hv : s.vm = U.vm) (h : KS π L xs s H) : KS π L xs U H := by
  obtain ⟨⟨h1, h2, h3⟩, h4, h5, h6, h7, h8, h9, h10, h11⟩ := h
  have hA : s.vm.Alike U.vm := by rw [hv]; exact Vm.Alike.refl _
  exact ⟨⟨h1.moved hA, h2, h3⟩, h4.moved hA, h5.moved hA, h6.moved hA, h7.moved hA, h8.moved hA, h9.moved hA, h10.moved hA, fun i hi => vk_R.same hv.symm (h11 i hi)⟩
/-- what is fixed at a method's entry -/
def Fx (p : Program) (s : State) (m : MethodId) (args : Array Value) (meth : Method) (c : Code) (y : Nat) (π : Par) (L : Nat) (xs : Nat → Int32) (D : va_G) (cA : Nat → ClassId) : Prop :=
  p.tables.exec = Jvm.exec ∧ c.code = mC y ∧ c.maxLocals = mL y ∧ (∀ w ∈ TS, w.before args s = true) ∧ s.vm.findClass (cStr (mCl y)) = some m.cls ∧ va_K D vwCl (tysM cA) s ∧ GV s ∧
  KS π L xs s s.heap ∧ ((mY y).name = "<init>" → meth.name = "<init>") ∧ pA π ≤ s.heap.size
section Ops
variable {p : Program} {l : Launch} {e : Env} {R : Room} {s : State} {m : MethodId} {args : Array Value} {below : List Frame} {meth : Method} {c : Code} {H : Heap} {locs : List Loc} {cells slots : Nat} {Q : State → Prop}
variable {π : Par} {L : Nat} {xs : Nat → Int32} {D : va_G} {cA : Nat → ClassId} {y pc n : Nat} {La : Array Slot} {ls : Loc1} {st : List PV} {M : Mem} {t : St1}
/-- where the walk stands -/
def At1 (p : Program) (s : State) (m : MethodId) (args : Array Value) (meth : Method) (c : Code) (R : Room) (y : Nat) (π : Par) (L : Nat) (xs : Nat → Int32) (D : va_G) (cA : Nat → ClassId) (M : Mem) (H : Heap) (locs : List Loc) (cells slots : Nat) (La : Array Slot) (ls : Loc1) : Prop :=
  Fx p s m args meth c y π L xs D cA ∧ Rel π D cA L xs M H ∧ va_S (fun q => pA π ≤ q) s.heap H locs ∧ LSt π (mL y) La ls ∧ s.heap.size + cells = pE π + (mX M - 2) ∧ 1 ≤ R.frames ∧ 40 ≤ R.locals
/-- what is wanted behind the instruction -/
def KK (p : Program) (l : Launch) (e : Env) (R : Room) (s : State) (m : MethodId) (args : Array Value) (below : List Frame) (meth : Method) (c : Code) (cells slots : Nat) (Q : State → Prop) (y : Nat) (π : Par) (L : Nat) (xs : Nat → Int32) (D : va_G) (cA : Nat → ClassId) (M : Mem) (t : St1) : Prop :=
  ∀ (H' : Heap) (locs' : List Loc) (La' : Array Slot), Rel π D cA L xs t.2.2.2 H' → va_S (fun q => pA π ≤ q) s.heap H' locs' → LSt π (mL y) La' t.2.1 →
    W p l e R s m args below meth c H' locs' (cells + (mX t.2.2.2 - mX M)) (slots + (mS t.2.2.2 - mS M)) Q (F0 m t.1 La' (t.2.2.1.map (rv π)))
theorem KK.same (A : At1 p s m args meth c R y π L xs D cA M H locs cells slots La ls) {pc' : Nat} {ls' : Loc1} {st' : List PV} (K : KK p l e R s m args below meth c cells slots Q y π L xs D cA M (pc', ls', st', M)) {La' : Array Slot} (h : LSt π (mL y) La' ls') :
    W p l e R s m args below meth c H locs cells slots Q (F0 m pc' La' (st'.map (rv π))) := by
  have := K H locs La' A.2.1 A.2.2.1 h
  simpa using this
theorem KK.stay (A : At1 p s m args meth c R y π L xs D cA M H locs cells slots La ls) {pc' : Nat} {st' : List PV} (K : KK p l e R s m args below meth c cells slots Q y π L xs D cA M (pc', ls, st', M)) :
    W p l e R s m args below meth c H locs cells slots Q (F0 m pc' La (st'.map (rv π))) := K.same A A.2.2.2.1
theorem so_c {v : PV} (A : At1 p s m args meth c R y π L xs D cA M H locs cells slots La ls) (row : W p l e R s m args below meth c H locs cells slots Q (F0 m (pc + n) La (rv π v :: st.map (rv π))) → W p l e R s m args below meth c H locs cells slots Q (F0 m pc La (st.map (rv π))))
    (he : e_c v n pc ls st M = some t) (K : KK p l e R s m args below meth c cells slots Q y π L xs D cA M t) : W p l e R s m args below meth c H locs cells slots Q (F0 m pc La (st.map (rv π))) := by
  unfold e_c at he; cases he
  exact row (K.stay A)
theorem so_ld {k kd : Nat} (A : At1 p s m args meth c R y π L xs D cA M H locs cells slots La ls)
    (ri : kd = 0 → ∀ x : Int32, La[k]? = some (.val (.int x)) → W p l e R s m args below meth c H locs cells slots Q (F0 m (pc + n) La (.int x :: st.map (rv π))) → W p l e R s m args below meth c H locs cells slots Q (F0 m pc La (st.map (rv π))))
    (rr : kd = 1 → ∀ r : Option Nat, La[k]? = some (.val (va_rf r)) → W p l e R s m args below meth c H locs cells slots Q (F0 m (pc + n) La (va_rf r :: st.map (rv π))) → W p l e R s m args below meth c H locs cells slots Q (F0 m pc La (st.map (rv π))))
    (rl : kd = 2 → ∀ x : Int64, La[k]? = some (.val (.long x)) → W p l e R s m args below meth c H locs cells slots Q (F0 m (pc + n) La (.long x :: st.map (rv π))) → W p l e R s m args below meth c H locs cells slots Q (F0 m pc La (st.map (rv π))))
    (he : e_ld k kd n pc ls st M = some t) (K : KK p l e R s m args below meth c cells slots Q y π L xs D cA M t) : W p l e R s m args below meth c H locs cells slots Q (F0 m pc La (st.map (rv π))) := by
  unfold e_ld at he
  have hl := A.2.2.2.1
  split at he
  · rename_i x hx
    split at he
    · rename_i hk
      cases he
      exact ri hk x (hl.int hx) (K.stay A)
    · cases he
  · rename_i x hx
    split at he
    · rename_i hk
      cases he
      exact rr hk _ (hl.ref hx) (K.stay A)
    · cases he
  · rename_i x hx
    split at he
    · rename_i h2
      split at he
      · rename_i hk
        cases he
        exact rl hk x (hl.long hx h2) (K.stay A)
      · cases he
    · cases he
  · cases he
theorem so_st {k kd : Nat} (A : At1 p s m args meth c R y π L xs D cA M H locs cells slots La ls)
    (ri : kd = 0 → ∀ (x : Int32) (rest : List Value) (lv : List (Nat × Value)), lv_has La (mL y) lv → k < mL y → (∀ La' : Array Slot, lv_has La' (mL y) ((k, Value.int x) :: keep1 k lv) → W p l e R s m args below meth c H locs cells slots Q (F0 m (pc + n) La' rest)) → W p l e R s m args below meth c H locs cells slots Q (F0 m pc La (.int x :: rest)))
    (rr : kd = 1 → ∀ (r : Option Nat) (rest : List Value) (lv : List (Nat × Value)), lv_has La (mL y) lv → k < mL y → (∀ La' : Array Slot, lv_has La' (mL y) ((k, va_rf r) :: keep1 k lv) → W p l e R s m args below meth c H locs cells slots Q (F0 m (pc + n) La' rest)) → W p l e R s m args below meth c H locs cells slots Q (F0 m pc La (va_rf r :: rest)))
    (rl : kd = 2 → ∀ (x : Int64) (rest : List Value) (lv : List (Nat × Value)), lv_has La (mL y) lv → k + 1 < mL y → (∀ La' : Array Slot, lv_has La' (mL y) ((k, Value.long x) :: keep2 k lv) → W p l e R s m args below meth c H locs cells slots Q (F0 m (pc + n) La' rest)) → W p l e R s m args below meth c H locs cells slots Q (F0 m pc La (.long x :: rest)))
    (he : e_st k kd n pc ls st M = some t) (K : KK p l e R s m args below meth c cells slots Q y π L xs D cA M t) : W p l e R s m args below meth c H locs cells slots Q (F0 m pc La (st.map (rv π))) := by
  unfold e_st at he
  obtain ⟨lv, h1, hlen, h3⟩ := A.2.2.2.1
  split at he
  · rename_i x r
    split at he
    · rename_i hk
      cases he
      rw [hlen] at hk
      exact ri hk.1 x _ lv h1 hk.2 (fun La' h' => K.same A (LSt.put1 (v := vi x) hlen h3 hk.2 rfl h'))
    · cases he
  · rename_i x r
    split at he
    · rename_i hk
      cases he
      rw [hlen] at hk
      exact rr hk.1 _ _ lv h1 hk.2 (fun La' h' => K.same A (LSt.put1 (v := vr x) hlen h3 hk.2 (by rw [rv_cat]) h'))
    · cases he
  · rename_i x r
    split at he
    · rename_i hk
      cases he
      rw [hlen] at hk
      exact rl hk.1 x _ lv h1 hk.2 (fun La' h' => K.same A (LSt.put2 hlen h3 hk.2 h'))
    · cases he
  · cases he
theorem so_b {f : Int32 → Int32 → Int32} (A : At1 p s m args meth c R y π L xs D cA M H locs cells slots La ls)
    (row : ∀ (x y' : Int32) (rest : List Value), W p l e R s m args below meth c H locs cells slots Q (F0 m (pc + 1) La (.int (f x y') :: rest)) → W p l e R s m args below meth c H locs cells slots Q (F0 m pc La (.int y' :: .int x :: rest)))
    (he : e_b f pc ls st M = some t) (K : KK p l e R s m args below meth c cells slots Q y π L xs D cA M t) : W p l e R s m args below meth c H locs cells slots Q (F0 m pc La (st.map (rv π))) := by
  unfold e_b at he
  split at he
  · cases he
    exact row _ _ _ (K.stay A)
  · cases he
theorem so_d {f : Int32 → Int32 → Int32} (A : At1 p s m args meth c R y π L xs D cA M H locs cells slots La ls)
    (row : ∀ (x y' : Int32) (rest : List Value), ¬ y' = 0 → W p l e R s m args below meth c H locs cells slots Q (F0 m (pc + 1) La (.int (f x y') :: rest)) → W p l e R s m args below meth c H locs cells slots Q (F0 m pc La (.int y' :: .int x :: rest)))
    (he : e_d f pc ls st M = some t) (K : KK p l e R s m args below meth c cells slots Q y π L xs D cA M t) : W p l e R s m args below meth c H locs cells slots Q (F0 m pc La (st.map (rv π))) := by
  unfold e_d at he
  split at he
  · split at he
    · cases he
    · rename_i hne
      cases he
      exact row _ _ _ hne (K.stay A)
  · cases he
theorem so_u {f : Int32 → Int32} (A : At1 p s m args meth c R y π L xs D cA M H locs cells slots La ls)
    (row : ∀ (x : Int32) (rest : List Value), W p l e R s m args below meth c H locs cells slots Q (F0 m (pc + 1) La (.int (f x) :: rest)) → W p l e R s m args below meth c H locs cells slots Q (F0 m pc La (.int x :: rest)))
    (he : e_u f pc ls st M = some t) (K : KK p l e R s m args below meth c cells slots Q y π L xs D cA M t) : W p l e R s m args below meth c H locs cells slots Q (F0 m pc La (st.map (rv π))) := by
  unfold e_u at he
  split at he
  · cases he
    exact row _ _ (K.stay A)
  · cases he
theorem so_lb {f : Int64 → Int64 → Int64} (A : At1 p s m args meth c R y π L xs D cA M H locs cells slots La ls)
    (row : ∀ (x y' : Int64) (rest : List Value), W p l e R s m args below meth c H locs cells slots Q (F0 m (pc + 1) La (.long (f x y') :: rest)) → W p l e R s m args below meth c H locs cells slots Q (F0 m pc La (.long y' :: .long x :: rest)))
    (he : e_lb f pc ls st M = some t) (K : KK p l e R s m args below meth c cells slots Q y π L xs D cA M t) : W p l e R s m args below meth c H locs cells slots Q (F0 m pc La (st.map (rv π))) := by
  unfold e_lb at he
  split at he
  · cases he
    exact row _ _ _ (K.stay A)
  · cases he
theorem tgt_ok {o : Int} {q : Nat} (h : tgt pc o = some q) : (pc : Int) + o = (q : Int) := by
  unfold tgt at h
  split at h
  · cases h; omega
  · cases h
theorem jmp_ok {o : Int} {ls' : Loc1} {st' : List PV} {M' : Mem} (h : jmp (tgt pc o) ls' st' M' = some t) : ∃ q : Nat, (pc : Int) + o = (q : Int) ∧ t = (q, ls', st', M') := by
  unfold jmp at h
  split at h
  · rename_i q hq
    cases h
    exact ⟨q, tgt_ok hq, rfl⟩
  · cases h
theorem so_if {f : Int32 → Bool} {o : Int} (A : At1 p s m args meth c R y π L xs D cA M H locs cells slots La ls)
    (row : ∀ (x : Int32) (rest : List Value) (q : Nat), (pc : Int) + o = (q : Int) → (f x = true → W p l e R s m args below meth c H locs cells slots Q (F0 m q La rest)) → (f x = false → W p l e R s m args below meth c H locs cells slots Q (F0 m (pc + 3) La rest)) → W p l e R s m args below meth c H locs cells slots Q (F0 m pc La (.int x :: rest)))
    (he : e_if f pc o ls st M = some t) (K : KK p l e R s m args below meth c cells slots Q y π L xs D cA M t) : W p l e R s m args below meth c H locs cells slots Q (F0 m pc La (st.map (rv π))) := by
  unfold e_if at he
  split at he
  · rename_i hq
    refine row _ _ _ (tgt_ok hq) (fun hx => ?_) (fun hx => ?_)
    · rw [if_pos hx] at he; cases he; exact K.stay A
    · rw [if_neg (by rw [hx]; decide)] at he; cases he; exact K.stay A
  · cases he
theorem so_ic {f : Int32 → Int32 → Bool} {o : Int} (A : At1 p s m args meth c R y π L xs D cA M H locs cells slots La ls)
    (row : ∀ (x y' : Int32) (rest : List Value) (q : Nat), (pc : Int) + o = (q : Int) → (f x y' = true → W p l e R s m args below meth c H locs cells slots Q (F0 m q La rest)) → (f x y' = false → W p l e R s m args below meth c H locs cells slots Q (F0 m (pc + 3) La rest)) → W p l e R s m args below meth c H locs cells slots Q (F0 m pc La (.int y' :: .int x :: rest)))
    (he : e_ic f pc o ls st M = some t) (K : KK p l e R s m args below meth c cells slots Q y π L xs D cA M t) : W p l e R s m args below meth c H locs cells slots Q (F0 m pc La (st.map (rv π))) := by
  unfold e_ic at he
  split at he
  · rename_i hq
    refine row _ _ _ _ (tgt_ok hq) (fun hx => ?_) (fun hx => ?_)
    · rw [if_pos hx] at he; cases he; exact K.stay A
    · rw [if_neg (by rw [hx]; decide)] at he; cases he; exact K.stay A
  · cases he
theorem W.sz (h : H.size ≤ s.heap.size + cells → W p l e R s m args below meth c H locs cells slots Q (F0 m pc La (st.map (rv π)))) : W p l e R s m args below meth c H locs cells slots Q (F0 m pc La (st.map (rv π))) :=
  fun T hT X => h (by have := X.heapSize; rw [hT] at this; exact this) T hT X
theorem rel_addr (hr : Rel π D cA L xs M H) {r : Nat} (hk : mK M r ≤ 18) (h1 : r ≠ 1) : 2 ≤ r ∧ r < mX M ∧ r < kA := by
  have := hr.2.2.2.1 r hk
  have := hr.2.2.1.2
  omega
theorem rel_obj (hr : Rel π D cA L xs M H) {r : Nat} (hk : mK M r < 13) : 2 ≤ r ∧ r < mX M ∧ r < kA := by
  refine rel_addr hr (by omega) ?_
  intro h
  have := hr.2.2.2.2.1
  rw [h] at hk
  omega
theorem ra_in {r : Nat} (h : 2 ≤ r) (h2 : r < kA) : ra π r = pE π + (r - 2) := by
  unfold ra
  rw [if_neg (by omega), if_neg (by omega)]
theorem ra_k {o : Nat} : ra π (kA + o) = pK π o := by
  unfold ra
  have hz : kA = 1000000 := rfl
  rw [if_neg (by omega), if_pos (by omega), show kA + o - kA = o by omega]
theorem rv_ne {r : Nat} (h : 2 ≤ r) : rv π (vr r) = .ref (ra π r) := by
  show va_rf (ro π r) = _
  unfold ro
  rw [if_neg (by omega)]; rfl
theorem rv_ref {r : Nat} (h : 2 ≤ r) (h2 : r < kA) : rv π (vr r) = .ref (pE π + (r - 2)) := by rw [rv_ne h, ra_in h h2]
theorem rv_k {o : Nat} : rv π (vr (kA + o)) = .ref (pK π o) := by
  have hz : kA = 1000000 := rfl
  rw [rv_ne (by omega), ra_k]
theorem ro_some {r : Nat} (h : 2 ≤ r) (h2 : r < kA) : ro π r = some (pE π + (r - 2)) := by
  unfold ro
  rw [if_neg (by omega), ra_in h h2]
theorem kA_of {r : Nat} (h : kA ≤ r) : ∃ o, r = kA + o := ⟨r - kA, by omega⟩
theorem P_size (hP : va_P D vwCl (pG π ++ wsM π cA M) H) (h : 2 < mX M) : pE π + (mX M - 2) ≤ H.size := by
  have h1 := ws_get (π := π) (cA := cA) (M := M) (r := mX M - 1) (by omega) (by omega)
  have := (hP _ _ h1).lt
  simp only at this
  omega
theorem range_set {α : Type} (f : Nat → α) (n k : Nat) (v : α) : ((List.range n).map f).set k v = (List.range n).map (fun i => if i = k then v else f i) := by
  apply List.ext_getElem?
  intro j
  rw [List.getElem?_set, List.getElem?_map, List.getElem?_map, List.length_map, List.length_range]
  by_cases hj : j < n
  · rw [List.getElem?_range hj]
    by_cases hk : k = j
    · subst hk; simp [hj]
    · simp [hk, Ne.symm hk]
  · have : (List.range n)[j]? = none := by rw [List.getElem?_eq_none]; simp; omega
    rw [this]
    by_cases hk : k = j
    · subst hk; simp [hj]
    · simp [hk]
/-- behind a store that leaves kinds, lengths and the next address -/
theorem stored (A : At1 p s m args meth c R y π L xs D cA M H locs cells slots La ls) {r : Nat} {M' : Mem} {pc' : Nat} {st' : List PV} {e1 : va_E} {H1 : Heap} {locs1 : List Loc} (h2 : 2 ≤ r) (hx : r < mX M)
    (hX : mX M' = mX M) (hS : mS M' = mS M) (hK : ∀ q, mK M' q = mK M q) (hN : ∀ q, mN M' q = mN M q) (hI : ∀ q, q ≠ r → mI M' q = mI M q) (hR : ∀ q, q ≠ r → mR M' q = mR M q) (hB : mK M r = 18 → ∀ j, byV (mI M' r j) = mI M' r j)
    (hr : cellE π cA M' r = e1) (ho : ∀ q, q ≠ r → cellE π cA M' q = cellE π cA M q)
    (hP1 : va_P D vwCl ((pG π ++ wsM π cA M).set (pL π r) (pE π + (r - 2), e1)) H1) (hS1 : va_S (fun q => pA π ≤ q) s.heap H1 locs1)
    (K : KK p l e R s m args below meth c cells slots Q y π L xs D cA M (pc', ls, st', M')) : W p l e R s m args below meth c H1 locs1 cells slots Q (F0 m pc' La (st'.map (rv π))) := by
  refine W.sz fun hsz => ?_
  rw [ws_set h2 hX hr ho] at hP1
  obtain ⟨-, ⟨-, -, ⟨hm2, hmk⟩, hkr, hsk, hsn, hsx, hco, hby, hga⟩, -, hl, hcs, -, -⟩ := id A
  have hz := P_size hP1 (by omega)
  have hco' : CoM (pF π) M' := by
    refine ⟨fun o => ?_, fun q hq => hco.2 q (by rw [hK] at hq; exact hq)⟩
    obtain ⟨c1, c2, c3, c4⟩ := hco.1 o
    refine ⟨by rw [hK]; exact c1, by rw [hN]; exact c2, fun j => by rw [hI _ (by omega)]; exact c3 j, fun j => by rw [hR _ (by omega)]; exact c4 j⟩
  have hby' : ByM M' := by
    intro q hq j
    rw [hK] at hq
    by_cases h : q = r
    · subst h; exact hB hq j
    · rw [hI q h]; exact hby q hq j
  have := K H1 locs1 La ⟨hP1, (by show H1.size = pE π + (mX M' - 2); omega), by rw [hX]; exact ⟨hm2, hmk⟩, fun q hq => by rw [hX]; exact hkr q (by rw [hK] at hq; exact hq), by rw [hK]; exact hsk, by rw [hN]; exact hsn, fun j => by rw [hI 1 (by omega)]; exact hsx j, hco', hby', hga⟩ hS1 hl
  simpa [hX, hS] using this
theorem fld_1 {c i k : Nat} (h : fld c i = some (1, k)) : k < 2 := by
  have h1 := lookup_mem h
  unfold fTab at h1
  have key : ∀ l : List (Nat × Nat × Nat), l.all (fun e => e.2.1 != 1 || Nat.blt e.2.2 2) = true → (i, 1, k) ∈ l → k < 2 := by
    intro l hl hm
    have := List.all_eq_true.mp hl _ hm
    simpa using this
  split at h1 <;> exact key _ (by decide) h1
theorem so_get {i : Nat} (A : At1 p s m args meth c R y π L xs D cA M H locs cells slots La ls) (hd : decode (mC y) pc = .ok (.getfield i, 3))
    (he : e_get (mCl y) i pc ls st M = some t) (K : KK p l e R s m args below meth c cells slots Q y π L xs D cA M t) : W p l e R s m args below meth c H locs cells slots Q (F0 m pc La (st.map (rv π))) := by
  obtain ⟨⟨hx, hb, -, hts, hown, hK, -, hks, -, -⟩, hrel, hS, -, -, -⟩ := id A
  unfold e_get at he
  split at he
  · rename_i st0 fl r st' C0 k hf
    split at he
    · rename_i hok
      cases he
      obtain ⟨-, h0, hk, hlink⟩ := fld_ok hf
      simp only at h0 hk hlink
      show W p l e R s m args below meth c H locs cells slots Q (F0 m pc La (rv π (vr r) :: st'.map (rv π)))
      simp only [okG, Bool.or_eq_true, Bool.and_eq_true, beq_iff_eq] at hok
      rcases hok with hok | ⟨rfl, hok⟩
      · subst hok
        obtain ⟨hcl, hin, -, -, -⟩ := clf _ h0
        obtain ⟨hr2, hrx, hrk⟩ := rel_obj hrel h0
        have hg := ws_get (π := π) (cA := cA) hr2 hrx
        unfold cellE at hg
        rw [if_pos h0] at hg
        rw [rv_ref hr2 hrk]
        refine va_get hx hb hts (fun w hw => hin w hw) hown hK hrel.1 (pL π r) hg hcl k hk (ref := (clTy (mK M r) k).1) (hts _ hlink) (fun x h => h) (v := fvE π M (mK M r) r k) (by simp [hk]) hd ?_
        have := K.stay A
        refine cast ?_ this
        unfold fvE
        split <;> rfl
      · obtain ⟨o, rfl⟩ := kA_of (hrel.2.2.2.2.2.2.2.1.2 r (Or.inr hok))
        obtain ⟨c1, c2, c3, c4⟩ := hrel.2.2.2.2.2.2.2.1.1 o
        rw [c1] at hok
        have ho : o < 32 ∧ o % 2 = 0 := by
          unfold mKc at hok
          split at hok
          · split at hok
            · exact ⟨by assumption, by assumption⟩
            · omega
          · split at hok <;> omega
        obtain ⟨i16, e16⟩ : ∃ i16, o = 2 * i16 := ⟨o / 2, by omega⟩
        subst e16
        obtain ⟨v1, v2, v3, v4⟩ := hks.2.1.1 i16 (by omega)
        rw [rv_k]
        have hK2 := K.stay A
        have hk4 : k < 4 := hk
        match k, hk4, hlink, hK2 with
        | 0, _, hlink, hK2 =>
          refine vk_getf hx hb v3 hS hown (hts _ hlink) (fun x h => h) hd ?_
          have e1 : mR M (kA + 2 * i16) 0 = kA + (2 * i16 + 1) := by rw [c4 0]; unfold mRc; rw [if_pos ⟨ho.1, ho.2, rfl⟩]; rfl
          have e2 : (((if fRef 1 0 = true then vr (mR M (kA + 2 * i16) 0) else vi (mI M (kA + 2 * i16) 0)) :: st').map (rv π)) = .ref (pK π (2 * i16 + 1)) :: st'.map (rv π) := by
            rw [if_pos (by rfl), e1, List.map_cons, rv_k]
          rw [e2] at hK2
          exact hK2
        | 1, _, hlink, hK2 =>
          refine vk_getf hx hb v2 hS hown (hts _ hlink) (fun x h => h) hd ?_
          have e1 : mI M (kA + 2 * i16) 1 = 0 := by rw [c3 1]; unfold mIc; rw [if_pos ho.1, if_pos ho.2]
          have e2 : (((if fRef 1 1 = true then vr (mR M (kA + 2 * i16) 1) else vi (mI M (kA + 2 * i16) 1)) :: st').map (rv π)) = .int 0 :: st'.map (rv π) := by
            rw [if_neg (by decide), e1, List.map_cons]; rfl
          rw [e2] at hK2
          exact hK2
        | 2, _, hlink, hK2 => exact absurd (fld_1 hf) (by decide)
        | 3, _, hlink, hK2 => exact absurd (fld_1 hf) (by decide)
        | k + 4, h, _, _ => omega
    · cases he
  · cases he
theorem fits_ref {ty : FieldType} (h : refTy ty = true) (r : Option Nat) : narrow ty (va_rf r) = va_rf r ∧ fits ty (va_rf r) = true := by
  cases ty <;> simp [refTy] at h <;> cases r <;> exact ⟨rfl, rfl⟩
theorem fits_b {x : Int32} (h : byV x = x) : fits .byte (.int x) = true := by
  have h1 : x.toInt.bmod (2 ^ 8) = x.toInt := by
    have := congrArg Int32.toInt h
    rwa [show (byV x).toInt = x.toInt8.toInt32.toInt from rfl, Int8.toInt_toInt32, Int32.toInt_toInt8] at this
  have h2 := Int.le_bmod (x := x.toInt) (m := 2 ^ 8) (by decide)
  have h3 := Int.bmod_lt (x := x.toInt) (m := 2 ^ 8) (by decide)
  have a1 : (-128 : Int32) ≤ x := by rw [Int32.le_iff_toInt_le, show (-128 : Int32).toInt = -128 from rfl]; omega
  have a2 : x ≤ (127 : Int32) := by rw [Int32.le_iff_toInt_le, show (127 : Int32).toInt = 127 from rfl]; omega
  show (decide (-128 ≤ x) && decide (x ≤ 127)) = true
  rw [decide_eq_true a1, decide_eq_true a2]; rfl
theorem so_put {i : Nat} (A : At1 p s m args meth c R y π L xs D cA M H locs cells slots La ls) (hd : decode (mC y) pc = .ok (.putfield i, 3)) (hcn : cStr (mCl y) = (mY y).cls)
    (he : e_put y (mCl y) i pc ls st M = some t) (K : KK p l e R s m args below meth c cells slots Q y π L xs D cA M t) : W p l e R s m args below meth c H locs cells slots Q (F0 m pc La (st.map (rv π))) := by
  obtain ⟨⟨hx, hb, -, hts, hown, hK, -, -, hini, -⟩, hrel, hS, -, -, -⟩ := id A
  have hga := hrel.2.2.2.2.2.2.2.2.2
  unfold e_put at he
  split at he
  · rename_i st0 fl x r st' C0 k hf
    split at he
    · rename_i hok
      cases he
      simp only [Bool.and_eq_true, Bool.not_eq_true', Bool.or_eq_true, beq_iff_eq] at hok
      obtain ⟨⟨⟨⟨hok, hnr⟩, hfin⟩, hbo⟩, hbb⟩ := hok
      obtain ⟨hdc, h0, hk, hlink⟩ := fld_ok hf
      simp only at hdc h0 hk hlink
      subst hok
      obtain ⟨hcl, hin, hty, hnm, -⟩ := clf _ h0
      obtain ⟨hr2, hrx, hrk⟩ := rel_obj hrel h0
      have hg := ws_get (π := π) (cA := cA) hr2 hrx
      unfold cellE at hg
      rw [if_pos h0] at hg
      obtain ⟨hs1, hs2, hs3, hs4⟩ := slotF _ h0 k hk
      obtain ⟨hg1, hg2⟩ := slotG _ h0 k hk
      show W p l e R s m args below meth c H locs cells slots Q (F0 m pc La (.int x :: rv π (vr r) :: st'.map (rv π)))
      rw [rv_ref hr2 hrk]
      have hnf : narrow (clY (mK M r) k) (.int x) = .int x ∧ fits (clY (mK M r) k) (.int x) = true := by
        cases hB : fBool (mK M r) k
        · cases hB2 : fByte (mK M r) k
          · rw [hs2 hnr hB hB2]; exact ⟨rfl, rfl⟩
          · rw [hs4 hnr hB2]
            have hx : x.toInt8.toInt32 = x := (hbb.resolve_left (by rw [hB2]; decide))
            exact ⟨congrArg Value.int hx, fits_b hx⟩
        · rw [hs3 hnr hB]
          rw [hB] at hbo
          rcases hbo with (h | h) | h
          · cases h
          · subst h; exact ⟨rfl, rfl⟩
          · subst h; exact ⟨rfl, rfl⟩
      have hcell : cellE π cA (sI M r k x) r = .inr (mK M r, ((List.range (nSlots (mK M r))).map (fvE π M (mK M r) r)).set k (.int x)) := by
        rw [range_set]
        unfold cellE
        rw [show mK (sI M r k x) r = mK M r from rfl, if_pos h0]
        congr 2
        apply List.map_congr_left
        intro i hi
        unfold fvE
        by_cases hik : i = k
        · subst hik
          rw [if_pos rfl, if_neg (by rw [hnr]; decide)]
          simp [mI, sI, up2]
        · rw [if_neg hik]
          split
          · rfl
          · simp [mI, sI, up2, hik]
      have hI : ∀ q, q ≠ r → mI (sI M r k x) q = mI M q := fun q hq => funext fun i => by simp [mI, sI, up2, hq]
      have hoth : ∀ q, q ≠ r → cellE π cA (sI M r k x) q = cellE π cA M q := by
        intro q hq
        have e3 : fvE π (sI M r k x) (mK M q) q = fvE π M (mK M q) q := funext fun i => by unfold fvE; rw [hI q hq]; rfl
        unfold cellE
        rw [show mK (sI M r k x) q = mK M q from rfl, e3, hI q hq]; rfl
      have hB18 : mK M r = 18 → ∀ j, byV (mI (sI M r k x) r j) = mI (sI M r k x) r j := fun h => by omega
      by_cases hff : fFin (mK M r) k = true
      · obtain ⟨hin1, hin2⟩ := hfin.resolve_left (by rw [hff]; decide)
        refine va_putF hx hb hts (fun w hw => hin w hw) (clY (mK M r)) hty hnm hown hK hrel.1 (ws_D hga) hS (pL π r) hg hcl k hk (ref := (clTy (mK M r) k).1) (hts _ hlink) (fun x h => h) (by rw [hg1]; exact hff) (hini hin1) (by rw [hg2 (hdc hff), hin2]) (hty k hk) hnf.1 hnf.2 (by simp [hk]) hd (fun H1 locs1 hP1 _ hS1 => ?_)
        exact stored (M' := sI M r k x) A hr2 hrx rfl rfl (fun _ => rfl) (fun _ => rfl) hI (fun _ _ => rfl) hB18 hcell hoth hP1 hS1 K
      · refine va_put hx hb hts (fun w hw => hin w hw) (clY (mK M r)) hty hnm hown hK hrel.1 (ws_D hga) hS (pL π r) hg hcl k hk (ref := (clTy (mK M r) k).1) (hts _ hlink) (fun x h => h) (by rw [hg1]; simpa using hff) (hty k hk) hnf.1 hnf.2 (by simp [hk]) hd (fun H1 locs1 hP1 _ hS1 => ?_)
        exact stored (M' := sI M r k x) A hr2 hrx rfl rfl (fun _ => rfl) (fun _ => rfl) hI (fun _ _ => rfl) hB18 hcell hoth hP1 hS1 K
    · cases he
  · rename_i st0 fl q r st' C0 k hf
    split at he
    · rename_i hok
      cases he
      simp only [Bool.and_eq_true, Bool.not_eq_true', Bool.or_eq_true, beq_iff_eq] at hok
      obtain ⟨⟨hok, hnr⟩, hfin⟩ := hok
      obtain ⟨hdc, h0, hk, hlink⟩ := fld_ok hf
      simp only at hdc h0 hk hlink
      subst hok
      obtain ⟨hcl, hin, hty, hnm, -⟩ := clf _ h0
      obtain ⟨hr2, hrx, hrk⟩ := rel_obj hrel h0
      have hg := ws_get (π := π) (cA := cA) hr2 hrx
      unfold cellE at hg
      rw [if_pos h0] at hg
      obtain ⟨hs1, hs2, hs3, hs4⟩ := slotF _ h0 k hk
      obtain ⟨hg1, hg2⟩ := slotG _ h0 k hk
      show W p l e R s m args below meth c H locs cells slots Q (F0 m pc La (va_rf (ro π q) :: rv π (vr r) :: st'.map (rv π)))
      rw [rv_ref hr2 hrk]
      have hnf := fits_ref (hs1 hnr) (ro π q)
      have hcell : cellE π cA (sR M r k q) r = .inr (mK M r, ((List.range (nSlots (mK M r))).map (fvE π M (mK M r) r)).set k (va_rf (ro π q))) := by
        rw [range_set]
        unfold cellE
        rw [show mK (sR M r k q) r = mK M r from rfl, if_pos h0]
        congr 2
        apply List.map_congr_left
        intro i hi
        unfold fvE
        by_cases hik : i = k
        · subst hik
          rw [if_pos rfl, if_pos hnr]
          simp [mR, sR, up2]
        · rw [if_neg hik]
          split
          · simp [mR, sR, up2, hik]
          · rfl
      have hRR : ∀ q', q' ≠ r → mR (sR M r k q) q' = mR M q' := fun q' hq => funext fun i => by simp [mR, sR, up2, hq]
      have hoth : ∀ q', q' ≠ r → cellE π cA (sR M r k q) q' = cellE π cA M q' := by
        intro q' hq
        have e3 : fvE π (sR M r k q) (mK M q') q' = fvE π M (mK M q') q' := funext fun i => by unfold fvE; rw [hRR q' hq]; rfl
        unfold cellE
        rw [show mK (sR M r k q) q' = mK M q' from rfl, e3, hRR q' hq]; rfl
      have hB18 : mK M r = 18 → ∀ j, byV (mI (sR M r k q) r j) = mI (sR M r k q) r j := fun h => by omega
      by_cases hff : fFin (mK M r) k = true
      · obtain ⟨hin1, hin2⟩ := hfin.resolve_left (by rw [hff]; decide)
        refine va_putF hx hb hts (fun w hw => hin w hw) (clY (mK M r)) hty hnm hown hK hrel.1 (ws_D hga) hS (pL π r) hg hcl k hk (ref := (clTy (mK M r) k).1) (hts _ hlink) (fun x h => h) (by rw [hg1]; exact hff) (hini hin1) (by rw [hg2 (hdc hff), hin2]) (hty k hk) hnf.1 hnf.2 (by simp [hk]) hd (fun H1 locs1 hP1 _ hS1 => ?_)
        exact stored (M' := sR M r k q) A hr2 hrx rfl rfl (fun _ => rfl) (fun _ => rfl) (fun _ _ => rfl) hRR hB18 hcell hoth hP1 hS1 K
      · refine va_put hx hb hts (fun w hw => hin w hw) (clY (mK M r)) hty hnm hown hK hrel.1 (ws_D hga) hS (pL π r) hg hcl k hk (ref := (clTy (mK M r) k).1) (hts _ hlink) (fun x h => h) (by rw [hg1]; simpa using hff) (hty k hk) hnf.1 hnf.2 (by simp [hk]) hd (fun H1 locs1 hP1 _ hS1 => ?_)
        exact stored (M' := sR M r k q) A hr2 hrx rfl rfl (fun _ => rfl) (fun _ => rfl) (fun _ _ => rfl) hRR hB18 hcell hoth hP1 hS1 K
    · cases he
  · cases he
end Ops
