/-! ===== each instruction of the evaluator is the machine's ===== -/
theorem irem_eq (a b : Int32) : a - a / b * b = a % b := by
  apply Int32.toInt_inj.mp
  rw [Int32.toInt_sub, Int32.toInt_mul, Int32.toInt_div, Int32.toInt_mod]
  have h1 : (a.toInt - (((a.toInt.tdiv b.toInt).bmod (2 ^ 32)) * b.toInt).bmod (2 ^ 32)).bmod (2 ^ 32) = (a.toInt - (a.toInt.tdiv b.toInt) * b.toInt).bmod (2 ^ 32) := by
    rw [Int.sub_bmod_bmod, ← Int.sub_bmod_bmod, Int.bmod_mul_bmod, Int.sub_bmod_bmod]
  rw [h1]
  have h2 : a.toInt - (a.toInt.tdiv b.toInt) * b.toInt = a.toInt.tmod b.toInt := by
    rw [Int.tmod_def, Int.mul_comm]
  rw [h2, ← Int32.toInt_mod]
  have h3 := Int32.le_toInt (a % b)
  have h4 := Int32.toInt_lt (a % b)
  exact Int.bmod_eq_of_le (by omega) (by omega)
def GV (s : State) : Prop := (∀ w ∈ gvW, va_Nw w s) ∧ (∀ a, a ∈ [0, 1, 2, 5, 6, 7, 8, 10] → ∀ k, k ∈ [0, 1, 2, 5, 6, 7, 10] → subK a k = false → va_Nc (clC a) (clC k) s) ∧ va_AO RX8 s ∧ va_AO RX9 s ∧ (Jvm.Cond.arrayOver (.array .int)).before #[] s = true
/-- what is fixed at a method's entry -/
def Fx (p : Program) (s : State) (m : MethodId) (args : Array Value) (meth : Method) (c : Code) (y b base L : Nat) (xs : Nat → Int32) (D : va_G) (cA : Nat → ClassId) : Prop :=
  p.tables.exec = Jvm.exec ∧ c.code = mC y ∧ c.maxLocals = mL y ∧ (∀ w ∈ TS, w.before args s = true) ∧ s.vm.findClass (cStr (mCl y)) = some m.cls ∧ va_K D vwCl (tysM cA) s ∧ GV s ∧
  (y = 0 → va_X b L xs s s.heap ∧ b < s.heap.size ∧ b < base) ∧ ((mY y).name = "<init>" → meth.name = "<init>") ∧ base ≤ s.heap.size
section Ops
variable {p : Program} {l : Launch} {e : Env} {R : Room} {s : State} {m : MethodId} {args : Array Value} {below : List Frame} {meth : Method} {c : Code} {H : Heap} {locs : List Loc} {cells slots : Nat} {Q : State → Prop}
variable {b base L : Nat} {xs : Nat → Int32} {D : va_G} {cA : Nat → ClassId} {y pc n : Nat} {La : Array Slot} {ls : Loc1} {st : List PV} {M : Mem} {t : St1}
/-- where the walk stands -/
def At1 (p : Program) (s : State) (m : MethodId) (args : Array Value) (meth : Method) (c : Code) (R : Room) (y b base L : Nat) (xs : Nat → Int32) (D : va_G) (cA : Nat → ClassId) (M : Mem) (H : Heap) (locs : List Loc) (cells slots : Nat) (La : Array Slot) (ls : Loc1) : Prop :=
  Fx p s m args meth c y b base L xs D cA ∧ Rel b base D cA L xs M H ∧ va_S (fun q => base ≤ q) s.heap H locs ∧ LSt b base (mL y) La ls ∧ s.heap.size + cells = base + (mX M - 2) ∧ 1 ≤ R.frames ∧ 40 ≤ R.locals
/-- what is wanted behind the instruction -/
def KK (p : Program) (l : Launch) (e : Env) (R : Room) (s : State) (m : MethodId) (args : Array Value) (below : List Frame) (meth : Method) (c : Code) (cells slots : Nat) (Q : State → Prop) (y b base L : Nat) (xs : Nat → Int32) (D : va_G) (cA : Nat → ClassId) (M : Mem) (t : St1) : Prop :=
  ∀ (H' : Heap) (locs' : List Loc) (La' : Array Slot), Rel b base D cA L xs t.2.2.2 H' → va_S (fun q => base ≤ q) s.heap H' locs' → LSt b base (mL y) La' t.2.1 →
    W p l e R s m args below meth c H' locs' (cells + (mX t.2.2.2 - mX M)) (slots + (mS t.2.2.2 - mS M)) Q (F0 m t.1 La' (t.2.2.1.map (rv b base)))
theorem KK.same (A : At1 p s m args meth c R y b base L xs D cA M H locs cells slots La ls) {pc' : Nat} {ls' : Loc1} {st' : List PV} (K : KK p l e R s m args below meth c cells slots Q y b base L xs D cA M (pc', ls', st', M)) {La' : Array Slot} (h : LSt b base (mL y) La' ls') :
    W p l e R s m args below meth c H locs cells slots Q (F0 m pc' La' (st'.map (rv b base))) := by
  have := K H locs La' A.2.1 A.2.2.1 h
  simpa using this
theorem KK.stay (A : At1 p s m args meth c R y b base L xs D cA M H locs cells slots La ls) {pc' : Nat} {st' : List PV} (K : KK p l e R s m args below meth c cells slots Q y b base L xs D cA M (pc', ls, st', M)) :
    W p l e R s m args below meth c H locs cells slots Q (F0 m pc' La (st'.map (rv b base))) := K.same A A.2.2.2.1
theorem so_c {v : PV} (A : At1 p s m args meth c R y b base L xs D cA M H locs cells slots La ls) (row : W p l e R s m args below meth c H locs cells slots Q (F0 m (pc + n) La (rv b base v :: st.map (rv b base))) → W p l e R s m args below meth c H locs cells slots Q (F0 m pc La (st.map (rv b base))))
    (he : e_c v n pc ls st M = some t) (K : KK p l e R s m args below meth c cells slots Q y b base L xs D cA M t) : W p l e R s m args below meth c H locs cells slots Q (F0 m pc La (st.map (rv b base))) := by
  unfold e_c at he; cases he
  exact row (K.stay A)
theorem so_ld {k kd : Nat} (A : At1 p s m args meth c R y b base L xs D cA M H locs cells slots La ls)
    (ri : kd = 0 → ∀ x : Int32, La[k]? = some (.val (.int x)) → W p l e R s m args below meth c H locs cells slots Q (F0 m (pc + n) La (.int x :: st.map (rv b base))) → W p l e R s m args below meth c H locs cells slots Q (F0 m pc La (st.map (rv b base))))
    (rr : kd = 1 → ∀ r : Option Nat, La[k]? = some (.val (va_rf r)) → W p l e R s m args below meth c H locs cells slots Q (F0 m (pc + n) La (va_rf r :: st.map (rv b base))) → W p l e R s m args below meth c H locs cells slots Q (F0 m pc La (st.map (rv b base))))
    (rl : kd = 2 → ∀ x : Int64, La[k]? = some (.val (.long x)) → W p l e R s m args below meth c H locs cells slots Q (F0 m (pc + n) La (.long x :: st.map (rv b base))) → W p l e R s m args below meth c H locs cells slots Q (F0 m pc La (st.map (rv b base))))
    (he : e_ld k kd n pc ls st M = some t) (K : KK p l e R s m args below meth c cells slots Q y b base L xs D cA M t) : W p l e R s m args below meth c H locs cells slots Q (F0 m pc La (st.map (rv b base))) := by
  unfold e_ld at he
  have hl := A.2.2.2.1
  split at he
  · rename_i x hx
    split at he
    · rename_i hk
      cases he
      exact ri hk x (hl.int hx) (K.stay A)
    · cases he
  · rename_i x hx
    split at he
    · rename_i hk
      cases he
      exact rr hk _ (hl.ref hx) (K.stay A)
    · cases he
  · rename_i x hx
    split at he
    · rename_i h2
      split at he
      · rename_i hk
        cases he
        exact rl hk x (hl.long hx h2) (K.stay A)
      · cases he
    · cases he
  · cases he
theorem so_st {k kd : Nat} (A : At1 p s m args meth c R y b base L xs D cA M H locs cells slots La ls)
    (ri : kd = 0 → ∀ (x : Int32) (rest : List Value) (lv : List (Nat × Value)), lv_has La (mL y) lv → k < mL y → (∀ La' : Array Slot, lv_has La' (mL y) ((k, Value.int x) :: keep1 k lv) → W p l e R s m args below meth c H locs cells slots Q (F0 m (pc + n) La' rest)) → W p l e R s m args below meth c H locs cells slots Q (F0 m pc La (.int x :: rest)))
    (rr : kd = 1 → ∀ (r : Option Nat) (rest : List Value) (lv : List (Nat × Value)), lv_has La (mL y) lv → k < mL y → (∀ La' : Array Slot, lv_has La' (mL y) ((k, va_rf r) :: keep1 k lv) → W p l e R s m args below meth c H locs cells slots Q (F0 m (pc + n) La' rest)) → W p l e R s m args below meth c H locs cells slots Q (F0 m pc La (va_rf r :: rest)))
    (rl : kd = 2 → ∀ (x : Int64) (rest : List Value) (lv : List (Nat × Value)), lv_has La (mL y) lv → k + 1 < mL y → (∀ La' : Array Slot, lv_has La' (mL y) ((k, Value.long x) :: keep2 k lv) → W p l e R s m args below meth c H locs cells slots Q (F0 m (pc + n) La' rest)) → W p l e R s m args below meth c H locs cells slots Q (F0 m pc La (.long x :: rest)))
    (he : e_st k kd n pc ls st M = some t) (K : KK p l e R s m args below meth c cells slots Q y b base L xs D cA M t) : W p l e R s m args below meth c H locs cells slots Q (F0 m pc La (st.map (rv b base))) := by
  unfold e_st at he
  obtain ⟨lv, h1, hlen, h3⟩ := A.2.2.2.1
  split at he
  · rename_i x r
    split at he
    · rename_i hk
      cases he
      rw [hlen] at hk
      exact ri hk.1 x _ lv h1 hk.2 (fun La' h' => K.same A (LSt.put1 (v := vi x) hlen h3 hk.2 rfl h'))
    · cases he
  · rename_i x r
    split at he
    · rename_i hk
      cases he
      rw [hlen] at hk
      exact rr hk.1 _ _ lv h1 hk.2 (fun La' h' => K.same A (LSt.put1 (v := vr x) hlen h3 hk.2 (by rw [rv_cat]) h'))
    · cases he
  · rename_i x r
    split at he
    · rename_i hk
      cases he
      rw [hlen] at hk
      exact rl hk.1 x _ lv h1 hk.2 (fun La' h' => K.same A (LSt.put2 hlen h3 hk.2 h'))
    · cases he
  · cases he
theorem so_b {f : Int32 → Int32 → Int32} (A : At1 p s m args meth c R y b base L xs D cA M H locs cells slots La ls)
    (row : ∀ (x y' : Int32) (rest : List Value), W p l e R s m args below meth c H locs cells slots Q (F0 m (pc + 1) La (.int (f x y') :: rest)) → W p l e R s m args below meth c H locs cells slots Q (F0 m pc La (.int y' :: .int x :: rest)))
    (he : e_b f pc ls st M = some t) (K : KK p l e R s m args below meth c cells slots Q y b base L xs D cA M t) : W p l e R s m args below meth c H locs cells slots Q (F0 m pc La (st.map (rv b base))) := by
  unfold e_b at he
  split at he
  · cases he
    exact row _ _ _ (K.stay A)
  · cases he
theorem so_d {f : Int32 → Int32 → Int32} (A : At1 p s m args meth c R y b base L xs D cA M H locs cells slots La ls)
    (row : ∀ (x y' : Int32) (rest : List Value), ¬ y' = 0 → W p l e R s m args below meth c H locs cells slots Q (F0 m (pc + 1) La (.int (f x y') :: rest)) → W p l e R s m args below meth c H locs cells slots Q (F0 m pc La (.int y' :: .int x :: rest)))
    (he : e_d f pc ls st M = some t) (K : KK p l e R s m args below meth c cells slots Q y b base L xs D cA M t) : W p l e R s m args below meth c H locs cells slots Q (F0 m pc La (st.map (rv b base))) := by
  unfold e_d at he
  split at he
  · split at he
    · cases he
    · rename_i hne
      cases he
      exact row _ _ _ hne (K.stay A)
  · cases he
theorem so_u {f : Int32 → Int32} (A : At1 p s m args meth c R y b base L xs D cA M H locs cells slots La ls)
    (row : ∀ (x : Int32) (rest : List Value), W p l e R s m args below meth c H locs cells slots Q (F0 m (pc + 1) La (.int (f x) :: rest)) → W p l e R s m args below meth c H locs cells slots Q (F0 m pc La (.int x :: rest)))
    (he : e_u f pc ls st M = some t) (K : KK p l e R s m args below meth c cells slots Q y b base L xs D cA M t) : W p l e R s m args below meth c H locs cells slots Q (F0 m pc La (st.map (rv b base))) := by
  unfold e_u at he
  split at he
  · cases he
    exact row _ _ (K.stay A)
  · cases he
theorem so_lb {f : Int64 → Int64 → Int64} (A : At1 p s m args meth c R y b base L xs D cA M H locs cells slots La ls)
    (row : ∀ (x y' : Int64) (rest : List Value), W p l e R s m args below meth c H locs cells slots Q (F0 m (pc + 1) La (.long (f x y') :: rest)) → W p l e R s m args below meth c H locs cells slots Q (F0 m pc La (.long y' :: .long x :: rest)))
    (he : e_lb f pc ls st M = some t) (K : KK p l e R s m args below meth c cells slots Q y b base L xs D cA M t) : W p l e R s m args below meth c H locs cells slots Q (F0 m pc La (st.map (rv b base))) := by
  unfold e_lb at he
  split at he
  · cases he
    exact row _ _ _ (K.stay A)
  · cases he
theorem tgt_ok {o : Int} {q : Nat} (h : tgt pc o = some q) : (pc : Int) + o = (q : Int) := by
  unfold tgt at h
  split at h
  · cases h; omega
  · cases h
theorem jmp_ok {o : Int} {ls' : Loc1} {st' : List PV} {M' : Mem} (h : jmp (tgt pc o) ls' st' M' = some t) : ∃ q : Nat, (pc : Int) + o = (q : Int) ∧ t = (q, ls', st', M') := by
  unfold jmp at h
  split at h
  · rename_i q hq
    cases h
    exact ⟨q, tgt_ok hq, rfl⟩
  · cases h
theorem so_if {f : Int32 → Bool} {o : Int} (A : At1 p s m args meth c R y b base L xs D cA M H locs cells slots La ls)
    (row : ∀ (x : Int32) (rest : List Value) (q : Nat), (pc : Int) + o = (q : Int) → (f x = true → W p l e R s m args below meth c H locs cells slots Q (F0 m q La rest)) → (f x = false → W p l e R s m args below meth c H locs cells slots Q (F0 m (pc + 3) La rest)) → W p l e R s m args below meth c H locs cells slots Q (F0 m pc La (.int x :: rest)))
    (he : e_if f pc o ls st M = some t) (K : KK p l e R s m args below meth c cells slots Q y b base L xs D cA M t) : W p l e R s m args below meth c H locs cells slots Q (F0 m pc La (st.map (rv b base))) := by
  unfold e_if at he
  split at he
  · rename_i hq
    refine row _ _ _ (tgt_ok hq) (fun hx => ?_) (fun hx => ?_)
    · rw [if_pos hx] at he; cases he; exact K.stay A
    · rw [if_neg (by rw [hx]; decide)] at he; cases he; exact K.stay A
  · cases he
theorem so_ic {f : Int32 → Int32 → Bool} {o : Int} (A : At1 p s m args meth c R y b base L xs D cA M H locs cells slots La ls)
    (row : ∀ (x y' : Int32) (rest : List Value) (q : Nat), (pc : Int) + o = (q : Int) → (f x y' = true → W p l e R s m args below meth c H locs cells slots Q (F0 m q La rest)) → (f x y' = false → W p l e R s m args below meth c H locs cells slots Q (F0 m (pc + 3) La rest)) → W p l e R s m args below meth c H locs cells slots Q (F0 m pc La (.int y' :: .int x :: rest)))
    (he : e_ic f pc o ls st M = some t) (K : KK p l e R s m args below meth c cells slots Q y b base L xs D cA M t) : W p l e R s m args below meth c H locs cells slots Q (F0 m pc La (st.map (rv b base))) := by
  unfold e_ic at he
  split at he
  · rename_i hq
    refine row _ _ _ _ (tgt_ok hq) (fun hx => ?_) (fun hx => ?_)
    · rw [if_pos hx] at he; cases he; exact K.stay A
    · rw [if_neg (by rw [hx]; decide)] at he; cases he; exact K.stay A
  · cases he
theorem W.sz (h : H.size ≤ s.heap.size + cells → W p l e R s m args below meth c H locs cells slots Q (F0 m pc La (st.map (rv b base)))) : W p l e R s m args below meth c H locs cells slots Q (F0 m pc La (st.map (rv b base))) :=
  fun T hT X => h (by have := X.heapSize; rw [hT] at this; exact this) T hT X
theorem rel_addr (hr : Rel b base D cA L xs M H) {r : Nat} (hk : mK M r ≤ 17) (h1 : r ≠ 1) : 2 ≤ r ∧ r < mX M := by
  have := hr.2.2.2.1 r hk
  omega
theorem rel_obj (hr : Rel b base D cA L xs M H) {r : Nat} (hk : mK M r < 13) : 2 ≤ r ∧ r < mX M := by
  refine rel_addr hr (by omega) ?_
  intro h
  have := hr.2.2.2.2.1
  rw [h] at hk
  omega
theorem rv_ref {r : Nat} (h : 2 ≤ r) : rv b base (vr r) = .ref (base + (r - 2)) := by
  show va_rf (ro b base r) = _
  unfold ro ra
  rw [if_neg (by omega), if_neg (by omega)]; rfl
theorem ro_some {r : Nat} (h : 2 ≤ r) : ro b base r = some (base + (r - 2)) := by
  unfold ro ra
  rw [if_neg (by omega), if_neg (by omega)]
theorem P_size (hP : va_P D vwCl (wsM b base cA M) H) (h : 2 < mX M) : base + (mX M - 2) ≤ H.size := by
  have h1 := ws_get (b := b) (base := base) (cA := cA) (M := M) (r := mX M - 1) (by omega) (by omega)
  have := (hP _ _ h1).lt
  simp only at this
  omega
theorem range_set {α : Type} (f : Nat → α) (n k : Nat) (v : α) : ((List.range n).map f).set k v = (List.range n).map (fun i => if i = k then v else f i) := by
  apply List.ext_getElem?
  intro j
  rw [List.getElem?_set, List.getElem?_map, List.getElem?_map, List.length_map, List.length_range]
  by_cases hj : j < n
  · rw [List.getElem?_range hj]
    by_cases hk : k = j
    · subst hk; simp [hj]
    · simp [hk, Ne.symm hk]
  · have : (List.range n)[j]? = none := by rw [List.getElem?_eq_none]; simp; omega
    rw [this]
    by_cases hk : k = j
    · subst hk; simp [hj]
    · simp [hk]
/-- behind a store that leaves kinds, lengths and the next address -/
theorem stored (A : At1 p s m args meth c R y b base L xs D cA M H locs cells slots La ls) {r : Nat} {M' : Mem} {pc' : Nat} {st' : List PV} {e1 : va_E} {H1 : Heap} {locs1 : List Loc} (h2 : 2 ≤ r) (hx : r < mX M)
    (hX : mX M' = mX M) (hS : mS M' = mS M) (hK : ∀ q, mK M' q = mK M q) (hN : mN M' 1 = mN M 1) (h1 : ∀ j, mI M' 1 j = mI M 1 j) (hr : cellE b base cA M' r = e1) (ho : ∀ q, q ≠ r → cellE b base cA M' q = cellE b base cA M q)
    (hP1 : va_P D vwCl ((wsM b base cA M).set (r - 2) (base + (r - 2), e1)) H1) (hS1 : va_S (fun q => base ≤ q) s.heap H1 locs1)
    (K : KK p l e R s m args below meth c cells slots Q y b base L xs D cA M (pc', ls, st', M')) : W p l e R s m args below meth c H1 locs1 cells slots Q (F0 m pc' La (st'.map (rv b base))) := by
  refine W.sz fun hsz => ?_
  rw [ws_set h2 hX hr ho] at hP1
  obtain ⟨-, ⟨-, -, hm2, hkr, hsk, hsn, hsx⟩, -, hl, hcs, -, -⟩ := id A
  have hz := P_size hP1 (by omega)
  have := K H1 locs1 La ⟨hP1, (by show H1.size = base + (mX M' - 2); omega), by rw [hX]; exact hm2, fun q hq => by rw [hX]; exact hkr q (by rw [hK] at hq; exact hq), by rw [hK]; exact hsk, by rw [hN]; exact hsn, fun j => by rw [h1]; exact hsx j⟩ hS1 hl
  simpa [hX, hS] using this
theorem so_get {i : Nat} (A : At1 p s m args meth c R y b base L xs D cA M H locs cells slots La ls) (hd : decode (mC y) pc = .ok (.getfield i, 3))
    (he : e_get (mCl y) i pc ls st M = some t) (K : KK p l e R s m args below meth c cells slots Q y b base L xs D cA M t) : W p l e R s m args below meth c H locs cells slots Q (F0 m pc La (st.map (rv b base))) := by
  obtain ⟨⟨hx, hb, -, hts, hown, hK, -, -, -, -⟩, hrel, -, -, -, -⟩ := id A
  unfold e_get at he
  split at he
  · rename_i st0 fl r st' C0 k hf
    split at he
    · rename_i hok
      cases he
      obtain ⟨-, h0, hk, hlink⟩ := fld_ok hf
      simp only at h0 hk hlink
      have hci := okF_lt h0 hok
      obtain ⟨hk', hT, hR⟩ := okF_same C0 h0 _ hci hok k hk
      obtain ⟨hcl, hin, -, -, -⟩ := clf _ hci
      obtain ⟨hr2, hrx⟩ := rel_obj hrel hci
      have hg := ws_get (b := b) (base := base) (cA := cA) hr2 hrx
      unfold cellE at hg
      rw [if_pos hci] at hg
      show W p l e R s m args below meth c H locs cells slots Q (F0 m pc La (rv b base (vr r) :: st'.map (rv b base)))
      rw [rv_ref hr2]
      refine va_get hx hb hts (fun w hw => hin w hw) hown hK hrel.1 (r - 2) hg hcl k hk' (ref := (clT (mK M r) k).1) (by rw [hT]; exact hts _ hlink) (fun x h => h) (v := fvE b base M (mK M r) r k) (by simp [hk']) hd ?_
      have := K.stay A
      refine cast ?_ this
      unfold fvE
      rw [hR]
      split <;> rfl
    · cases he
  · cases he
theorem fits_ref {ty : FieldType} (h : refTy ty = true) (r : Option Nat) : narrow ty (va_rf r) = va_rf r ∧ fits ty (va_rf r) = true := by
  cases ty <;> simp [refTy] at h <;> cases r <;> exact ⟨rfl, rfl⟩
theorem so_put {i : Nat} (A : At1 p s m args meth c R y b base L xs D cA M H locs cells slots La ls) (hd : decode (mC y) pc = .ok (.putfield i, 3)) (hcn : cStr (mCl y) = (mY y).cls)
    (he : e_put y (mCl y) i pc ls st M = some t) (K : KK p l e R s m args below meth c cells slots Q y b base L xs D cA M t) : W p l e R s m args below meth c H locs cells slots Q (F0 m pc La (st.map (rv b base))) := by
  obtain ⟨⟨hx, hb, -, hts, hown, hK, -, -, hini, -⟩, hrel, hS, -, -, -⟩ := id A
  unfold e_put at he
  split at he
  · rename_i st0 fl x r st' C0 k hf
    split at he
    · rename_i hok
      cases he
      simp only [Bool.and_eq_true, Bool.not_eq_true', Bool.or_eq_true, beq_iff_eq] at hok
      obtain ⟨⟨⟨hok, hnr⟩, hfin⟩, hbo⟩ := hok
      obtain ⟨hdc, h0, hk, hlink⟩ := fld_ok hf
      simp only at hdc h0 hk hlink
      have hci := okF_lt h0 hok
      obtain ⟨hk', hT, hR⟩ := okF_same C0 h0 _ hci hok k hk
      obtain ⟨hcl, hin, hty, hnm, -⟩ := clf _ hci
      obtain ⟨hr2, hrx⟩ := rel_obj hrel hci
      have hg := ws_get (b := b) (base := base) (cA := cA) hr2 hrx
      unfold cellE at hg
      rw [if_pos hci] at hg
      obtain ⟨hs1, hs2, hs3⟩ := slotF _ hci k hk'
      obtain ⟨hg1, hg2⟩ := slotG C0 h0 k hk
      show W p l e R s m args below meth c H locs cells slots Q (F0 m pc La (.int x :: rv b base (vr r) :: st'.map (rv b base)))
      rw [rv_ref hr2]
      have hnf : narrow (clY (mK M r) k) (.int x) = .int x ∧ fits (clY (mK M r) k) (.int x) = true := by
        cases hB : fBool (mK M r) k
        · rw [hs2 (by rw [hR]; exact hnr) hB]; exact ⟨rfl, rfl⟩
        · rw [hs3 (by rw [hR]; exact hnr) hB]
          have hb8 : fBool C0 k = true := by
            by_cases h8 : C0 = 8
            · subst h8
              exfalso
              have h9 : ∀ ci, ci < 13 → okF 8 ci = true → ∀ k, k < 3 → fBool ci k = false := by decide +kernel
              rw [h9 _ hci hok k hk] at hB; cases hB
            · unfold okF at hok
              rw [if_neg h8] at hok
              rw [← eq_of_beq hok]; exact hB
          rw [hb8] at hbo
          rcases hbo with (h | h) | h
          · cases h
          · subst h; exact ⟨rfl, rfl⟩
          · subst h; exact ⟨rfl, rfl⟩
      have hcell : cellE b base cA (sI M r k x) r = .inr (mK M r, ((List.range (nSlots (mK M r))).map (fvE b base M (mK M r) r)).set k (.int x)) := by
        rw [range_set]
        unfold cellE
        rw [show mK (sI M r k x) r = mK M r from rfl, if_pos hci]
        congr 2
        apply List.map_congr_left
        intro i hi
        unfold fvE
        by_cases hik : i = k
        · subst hik
          rw [if_pos rfl, if_neg (by rw [hR, hnr]; decide)]
          simp [mI, sI, up2]
        · rw [if_neg hik]
          split
          · rfl
          · simp [mI, sI, up2, hik]
      have hoth : ∀ q, q ≠ r → cellE b base cA (sI M r k x) q = cellE b base cA M q := by
        intro q hq
        have e1 : ∀ i, mI (sI M r k x) q i = mI M q i := fun i => by simp [mI, sI, up2, hq]
        have e2 : mI (sI M r k x) q = mI M q := funext e1
        have e3 : fvE b base (sI M r k x) (mK M q) q = fvE b base M (mK M q) q := funext fun i => by unfold fvE; rw [e1]; rfl
        unfold cellE
        rw [show mK (sI M r k x) q = mK M q from rfl, e3, e2]; rfl
      have h1I : ∀ j, mI (sI M r k x) 1 j = mI M 1 j := fun j => by simp [mI, sI, up2, show (1 : Nat) ≠ r by omega]
      rcases hfin with hnf0 | ⟨hin1, hin2⟩
      · refine va_put hx hb hts (fun w hw => hin w hw) (clY (mK M r)) hty hnm hown hK hrel.1 ws_D hS (r - 2) hg hcl k hk' (ref := (clT (mK M r) k).1) (by rw [hT]; exact hts _ hlink) (fun x h => h) (by rw [hT, hg1]; exact hnf0) (hty k hk') hnf.1 hnf.2 (by simp [hk']) hd (fun H1 locs1 hP1 _ hS1 => ?_)
        exact stored (M' := sI M r k x) A hr2 hrx rfl rfl (fun _ => rfl) rfl h1I hcell hoth hP1 hS1 K
      · by_cases hff : fFin C0 k = true
        · refine va_putF hx hb hts (fun w hw => hin w hw) (clY (mK M r)) hty hnm hown hK hrel.1 ws_D hS (r - 2) hg hcl k hk' (ref := (clT (mK M r) k).1) (by rw [hT]; exact hts _ hlink) (fun x h => h) (by rw [hT, hg1]; exact hff) (hini hin1) (by rw [hT, hg2 hdc, hin2]) (hty k hk') hnf.1 hnf.2 (by simp [hk']) hd (fun H1 locs1 hP1 _ hS1 => ?_)
          exact stored (M' := sI M r k x) A hr2 hrx rfl rfl (fun _ => rfl) rfl h1I hcell hoth hP1 hS1 K
        · refine va_put hx hb hts (fun w hw => hin w hw) (clY (mK M r)) hty hnm hown hK hrel.1 ws_D hS (r - 2) hg hcl k hk' (ref := (clT (mK M r) k).1) (by rw [hT]; exact hts _ hlink) (fun x h => h) (by rw [hT, hg1]; simpa using hff) (hty k hk') hnf.1 hnf.2 (by simp [hk']) hd (fun H1 locs1 hP1 _ hS1 => ?_)
          exact stored (M' := sI M r k x) A hr2 hrx rfl rfl (fun _ => rfl) rfl h1I hcell hoth hP1 hS1 K
    · cases he
  · rename_i st0 fl q r st' C0 k hf
    split at he
    · rename_i hok
      cases he
      simp only [Bool.and_eq_true, Bool.not_eq_true', Bool.or_eq_true, beq_iff_eq] at hok
      obtain ⟨⟨hok, hnr⟩, hfin⟩ := hok
      obtain ⟨hdc, h0, hk, hlink⟩ := fld_ok hf
      simp only at hdc h0 hk hlink
      have hci := okF_lt h0 hok
      obtain ⟨hk', hT, hR⟩ := okF_same C0 h0 _ hci hok k hk
      obtain ⟨hcl, hin, hty, hnm, -⟩ := clf _ hci
      obtain ⟨hr2, hrx⟩ := rel_obj hrel hci
      have hg := ws_get (b := b) (base := base) (cA := cA) hr2 hrx
      unfold cellE at hg
      rw [if_pos hci] at hg
      obtain ⟨hs1, hs2, hs3⟩ := slotF _ hci k hk'
      obtain ⟨hg1, hg2⟩ := slotG C0 h0 k hk
      show W p l e R s m args below meth c H locs cells slots Q (F0 m pc La (va_rf (ro b base q) :: rv b base (vr r) :: st'.map (rv b base)))
      rw [rv_ref hr2]
      have hnf := fits_ref (hs1 (by rw [hR]; exact hnr)) (ro b base q)
      have hcell : cellE b base cA (sR M r k q) r = .inr (mK M r, ((List.range (nSlots (mK M r))).map (fvE b base M (mK M r) r)).set k (va_rf (ro b base q))) := by
        rw [range_set]
        unfold cellE
        rw [show mK (sR M r k q) r = mK M r from rfl, if_pos hci]
        congr 2
        apply List.map_congr_left
        intro i hi
        unfold fvE
        by_cases hik : i = k
        · subst hik
          rw [if_pos rfl, if_pos (by rw [hR]; exact hnr)]
          simp [mR, sR, up2]
        · rw [if_neg hik]
          split
          · simp [mR, sR, up2, hik]
          · rfl
      have hoth : ∀ q', q' ≠ r → cellE b base cA (sR M r k q) q' = cellE b base cA M q' := by
        intro q' hq
        have e1 : ∀ i, mR (sR M r k q) q' i = mR M q' i := fun i => by simp [mR, sR, up2, hq]
        have e2 : mR (sR M r k q) q' = mR M q' := funext e1
        have e3 : fvE b base (sR M r k q) (mK M q') q' = fvE b base M (mK M q') q' := funext fun i => by unfold fvE; rw [e1]; rfl
        unfold cellE
        rw [show mK (sR M r k q) q' = mK M q' from rfl, e3, e2]; rfl
      rcases hfin with hnf0 | ⟨hin1, hin2⟩
      · refine va_put hx hb hts (fun w hw => hin w hw) (clY (mK M r)) hty hnm hown hK hrel.1 ws_D hS (r - 2) hg hcl k hk' (ref := (clT (mK M r) k).1) (by rw [hT]; exact hts _ hlink) (fun x h => h) (by rw [hT, hg1]; exact hnf0) (hty k hk') hnf.1 hnf.2 (by simp [hk']) hd (fun H1 locs1 hP1 _ hS1 => ?_)
        exact stored (M' := sR M r k q) A hr2 hrx rfl rfl (fun _ => rfl) rfl (fun _ => rfl) hcell hoth hP1 hS1 K
      · by_cases hff : fFin C0 k = true
        · refine va_putF hx hb hts (fun w hw => hin w hw) (clY (mK M r)) hty hnm hown hK hrel.1 ws_D hS (r - 2) hg hcl k hk' (ref := (clT (mK M r) k).1) (by rw [hT]; exact hts _ hlink) (fun x h => h) (by rw [hT, hg1]; exact hff) (hini hin1) (by rw [hT, hg2 hdc, hin2]) (hty k hk') hnf.1 hnf.2 (by simp [hk']) hd (fun H1 locs1 hP1 _ hS1 => ?_)
          exact stored (M' := sR M r k q) A hr2 hrx rfl rfl (fun _ => rfl) rfl (fun _ => rfl) hcell hoth hP1 hS1 K
        · refine va_put hx hb hts (fun w hw => hin w hw) (clY (mK M r)) hty hnm hown hK hrel.1 ws_D hS (r - 2) hg hcl k hk' (ref := (clT (mK M r) k).1) (by rw [hT]; exact hts _ hlink) (fun x h => h) (by rw [hT, hg1]; simpa using hff) (hty k hk') hnf.1 hnf.2 (by simp [hk']) hd (fun H1 locs1 hP1 _ hS1 => ?_)
          exact stored (M' := sR M r k q) A hr2 hrx rfl rfl (fun _ => rfl) rfl (fun _ => rfl) hcell hoth hP1 hS1 K
    · cases he
  · cases he
end Ops
