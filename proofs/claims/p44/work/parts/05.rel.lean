/-! ===== how a pure memory stands in a heap, pure locals in a frame ===== -/
/-- what is fixed: where the host's constants lie; the script's address; from where on cells may be written; the first address of the numbered cells; the cells ahead of them that are used no more; whether the formatter is there -/
abbrev Par : Type := (Nat → Nat) × Nat × Nat × Nat × va_W × Int32
def pK (π : Par) : Nat → Nat := π.1
def pB (π : Par) : Nat := π.2.1
def pA (π : Par) : Nat := π.2.2.1
def pE (π : Par) : Nat := π.2.2.2.1
def pG (π : Par) : va_W := π.2.2.2.2.1
def pF (π : Par) : Int32 := π.2.2.2.2.2
def ra (π : Par) (r : Nat) : Nat := if r = 1 then pB π else if kA ≤ r then pK π (r - kA) else pE π + (r - 2)
def ro (π : Par) (r : Nat) : Option Nat := if r = 0 then none else some (ra π r)
def rv (π : Par) (v : PV) : Value := match v with
  | .inl x => .int x
  | .inr (.inl r) => va_rf (ro π r)
  | .inr (.inr x) => .long x
def fvE (π : Par) (M : Mem) (k r i : Nat) : Value := if fRef k i = true then va_rf (ro π (mR M r i)) else .int (mI M r i)
def cellE (π : Par) (cA : Nat → ClassId) (M : Mem) (r : Nat) : va_E :=
  if mK M r < 13 then .inr (mK M r, (List.range (nSlots (mK M r))).map (fvE π M (mK M r) r))
  else if mK M r = 13 then .inl (cA 13, mN M r, .inl (mI M r))
  else if mK M r = 14 then .inl (cA 14, mN M r, .inr (.inl (mJ M r)))
  else if mK M r = 18 then .inl (cA 18, mN M r, .inl (mI M r))
  else .inl (cA (mK M r), mN M r, .inr (.inr (.inr (.inr (fun j => ro π (mR M r j))))))
def wsM (π : Par) (cA : Nat → ClassId) (M : Mem) : va_W := (List.range (mX M - 2)).map (fun j => (pE π + j, cellE π cA M (j + 2)))
def tysM (cA : Nat → ClassId) : List (ClassId × FieldType) := [(cA 13, .int), (cA 14, .long), (cA 15, .object RX8), (cA 16, .object RX9), (cA 17, .array .int), (cA 18, .byte)]
/-- the host's constants, by their places behind kA -/
def mKc (o : Nat) : Nat := if o < 32 then (if o % 2 = 0 then 20 else 19) else if o = 40 ∨ o = 41 then 19 else 99
def mNc (o : Nat) : Nat := if o < 32 then (if o % 2 = 0 then 0 else lenJ.getD (o / 2) 0) else if o = 40 ∨ o = 41 then 100 else 0
def mIc (φ : Int32) (o j : Nat) : Int32 := if o < 32 then (if o % 2 = 0 then 0 else (bytJ.getD (o / 2) []).getD j 0) else if o = 40 then dgO.getD j 0 else if o = 41 then dgT.getD j 0 else if o = 42 then φ else 0
def mRc (o j : Nat) : Nat := if o < 32 ∧ o % 2 = 0 ∧ j = 0 then kA + o + 1 else 0
def CoM (φ : Int32) (M : Mem) : Prop := (∀ o, mK M (kA + o) = mKc o ∧ mN M (kA + o) = mNc o ∧ (∀ j, mI M (kA + o) j = mIc φ o j) ∧ ∀ j, mR M (kA + o) j = mRc o j) ∧ ∀ r, mK M r = 19 ∨ mK M r = 20 → kA ≤ r
/-- rows of bytes hold bytes -/
def ByM (M : Mem) : Prop := ∀ r, mK M r = 18 → ∀ j, byV (mI M r j) = mI M r j
/-- the cells that are used no more lie one behind another -/
def GaM (π : Par) : Prop := pE π = pA π + (pG π).length ∧ ∀ (j : Nat) (x : Nat × va_E), (pG π)[j]? = some x → x.1 = pA π + j
def Rel (π : Par) (D : va_G) (cA : Nat → ClassId) (L : Nat) (xs : Nat → Int32) (M : Mem) (H : Heap) : Prop :=
  va_P D vwCl (pG π ++ wsM π cA M) H ∧ H.size = pE π + (mX M - 2) ∧ (2 ≤ mX M ∧ mX M ≤ kA) ∧ (∀ r, mK M r ≤ 18 → 1 ≤ r ∧ r < mX M) ∧ mK M 1 = 13 ∧ mN M 1 = L ∧ (∀ j, mI M 1 j = xs j) ∧ CoM (pF π) M ∧ ByM M ∧ GaM π
section RelL
variable {π : Par} {cA : Nat → ClassId} {M M' : Mem}
theorem wsM_len : (wsM π cA M).length = mX M - 2 := by simp [wsM]
theorem wsM_get {r : Nat} (h2 : 2 ≤ r) (hx : r < mX M) : (wsM π cA M)[r - 2]? = some (pE π + (r - 2), cellE π cA M r) := by
  unfold wsM
  rw [List.getElem?_map, List.getElem?_range (by omega)]
  simp only [Option.map_some]
  rw [show r - 2 + 2 = r by omega]
abbrev pL (π : Par) (r : Nat) : Nat := (pG π).length + (r - 2)
theorem pL_le {r : Nat} : (pG π).length ≤ pL π r := Nat.le_add_right _ _
theorem pL_sub {r : Nat} : pL π r - (pG π).length = r - 2 := Nat.add_sub_cancel_left _ _
theorem ws_get {r : Nat} (h2 : 2 ≤ r) (hx : r < mX M) : (pG π ++ wsM π cA M)[pL π r]? = some (pE π + (r - 2), cellE π cA M r) := by
  rw [List.getElem?_append_right pL_le, pL_sub]
  exact wsM_get h2 hx
theorem ws_len : (pG π ++ wsM π cA M).length = (pG π).length + (mX M - 2) := by rw [List.length_append, wsM_len]
theorem wsM_set {r : Nat} {e : va_E} (h2 : 2 ≤ r) (hX : mX M' = mX M) (hr : cellE π cA M' r = e) (ho : ∀ q, q ≠ r → cellE π cA M' q = cellE π cA M q) : (wsM π cA M).set (r - 2) (pE π + (r - 2), e) = wsM π cA M' := by
  apply List.ext_getElem?
  intro j
  unfold wsM
  rw [hX, List.getElem?_set, List.getElem?_map, List.getElem?_map, List.length_map, List.length_range]
  by_cases hj : j < mX M - 2
  · rw [List.getElem?_range hj]
    simp only [Option.map_some]
    by_cases hq : r - 2 = j
    · rw [if_pos hq, hq, if_pos hj]
      have : j + 2 = r := by omega
      rw [this, hr]
    · rw [if_neg hq, ho _ (by omega)]
  · have : (List.range (mX M - 2))[j]? = none := by rw [List.getElem?_eq_none]; simp; omega
    rw [this]
    by_cases hq : r - 2 = j
    · rw [if_pos hq, hq, if_neg hj]; rfl
    · rw [if_neg hq]; rfl
theorem ws_set {r : Nat} {e : va_E} (h2 : 2 ≤ r) (hX : mX M' = mX M) (hr : cellE π cA M' r = e) (ho : ∀ q, q ≠ r → cellE π cA M' q = cellE π cA M q) : (pG π ++ wsM π cA M).set (pL π r) (pE π + (r - 2), e) = pG π ++ wsM π cA M' := by
  rw [List.set_append_right _ _ pL_le, pL_sub, wsM_set h2 hX hr ho]
theorem ws_push (h2 : 2 ≤ mX M) (hX : mX M' = mX M + 1) (ho : ∀ q, 2 ≤ q → q < mX M → cellE π cA M' q = cellE π cA M q) : pG π ++ wsM π cA M' = (pG π ++ wsM π cA M) ++ [(pE π + (mX M - 2), cellE π cA M' (mX M))] := by
  rw [List.append_assoc]
  congr 1
  unfold wsM
  rw [hX, show mX M + 1 - 2 = (mX M - 2) + 1 by omega, List.range_succ, List.map_append]
  congr 1
  · apply List.map_congr_left
    intro j hj
    have := List.mem_range.mp hj
    rw [ho _ (by omega) (by omega)]
  · simp only [List.map_cons, List.map_nil]
    rw [show mX M - 2 + 2 = mX M by omega]
/-- every place's address -/
theorem ws_at (hG : GaM π) {i : Nat} {p : Nat × va_E} (hi : (pG π ++ wsM π cA M)[i]? = some p) : p.1 = pA π + i := by
  by_cases h : i < (pG π).length
  · rw [List.getElem?_append_left h] at hi
    exact hG.2 _ _ hi
  · rw [List.getElem?_append_right (by omega)] at hi
    unfold wsM at hi
    rw [List.getElem?_map] at hi
    obtain ⟨i', hi', rfl⟩ := Option.map_eq_some_iff.mp hi
    have e1 := (List.getElem?_eq_some_iff.mp hi').2
    simp only [List.getElem_range] at e1
    have := hG.1
    show pE π + i' = _
    omega
theorem ws_D (hG : GaM π) : va_D (fun q => pA π ≤ q) (pG π ++ wsM π cA M) := by
  refine ⟨fun i j p q hi hj he => ?_, fun k q hk => ?_⟩
  · have := ws_at hG hi
    have := ws_at hG hj
    omega
  · have := ws_at hG hk
    show pA π ≤ q.1
    omega
end RelL
theorem rv_cat (π : Par) (v : PV) : (rv π v).category = match v with | .inr (.inr _) => 2 | _ => 1 := by
  rcases v with x | r | x
  · rfl
  · show (va_rf (ro π r)).category = 1
    unfold ro; split <;> rfl
  · rfl
/-- pure locals in a frame's: a long counts only while its second place holds nothing else -/
def LSt (π : Par) (n : Nat) (La : Array Slot) (ls : Loc1) : Prop :=
  ∃ lv : List (Nat × Value), lv_has La n lv ∧ ls.length = n ∧ ∀ (i : Nat) (v : PV), ls[i]? = some (some v) → ((∃ x, v = vl x) → ls[i + 1]? = some none) → (i, rv π v) ∈ lv
section LSL
variable {π : Par} {n : Nat} {La : Array Slot} {ls : Loc1}
theorem LSt.size (h : LSt π n La ls) : La.size = n := by obtain ⟨lv, h1, -, -⟩ := h; exact h1.1
theorem LSt.int (h : LSt π n La ls) {i : Nat} {x : Int32} (hi : ls[i]? = some (some (vi x))) : La[i]? = some (.val (.int x)) := by
  obtain ⟨lv, h1, -, h3⟩ := h
  exact h1.2.2 (i, .int x) (h3 i (vi x) hi (fun ⟨x, hx⟩ => by cases hx))
theorem LSt.ref (h : LSt π n La ls) {i : Nat} {r : Nat} (hi : ls[i]? = some (some (vr r))) : La[i]? = some (.val (va_rf (ro π r))) := by
  obtain ⟨lv, h1, -, h3⟩ := h
  exact h1.2.2 (i, _) (h3 i (vr r) hi (fun ⟨x, hx⟩ => by cases hx))
theorem LSt.long (h : LSt π n La ls) {i : Nat} {x : Int64} (hi : ls[i]? = some (some (vl x))) (h2 : ls[i + 1]? = some none) : La[i]? = some (.val (.long x)) := by
  obtain ⟨lv, h1, -, h3⟩ := h
  exact h1.2.2 (i, .long x) (h3 i (vl x) hi (fun _ => h2))
/-- what is left of locals when a value of one word is put at k -/
def keep1 (k : Nat) (lv : List (Nat × Value)) : List (Nat × Value) := lv.filter (fun q => !(q.1 == k) && !(q.1 + 1 == k && q.2.category == 2))
def keep2 (k : Nat) (lv : List (Nat × Value)) : List (Nat × Value) := lv.filter (fun q => !(q.1 == k) && (!(q.1 == k + 1) && !(q.1 + 1 == k && q.2.category == 2)))
theorem LSt.put1 {k : Nat} {v : PV} {La' : Array Slot} {lv : List (Nat × Value)} (hlen : ls.length = n) (h3 : ∀ (i : Nat) (v : PV), ls[i]? = some (some v) → ((∃ x, v = vl x) → ls[i + 1]? = some none) → (i, rv π v) ∈ lv)
    (hk : k < n) (hv : (rv π v).category = 1) (h' : lv_has La' n ((k, rv π v) :: keep1 k lv)) : LSt π n La' (ls.set k (some v)) := by
  refine ⟨_, h', by simpa using hlen, ?_⟩
  intro i w hi hl
  rw [List.getElem?_set] at hi
  by_cases hik : k = i
  · subst hik
    simp only [if_true] at hi
    split at hi
    · cases hi
      exact List.mem_cons_self
    · cases hi
  · rw [if_neg hik] at hi
    have hl2 : (∃ x, w = vl x) → ls[i + 1]? = some none := fun hx => by
      have := hl hx
      rw [List.getElem?_set] at this
      by_cases h1 : k = i + 1
      · rw [if_pos h1] at this
        split at this
        · cases this
        · cases this
      · rw [if_neg h1] at this
        exact this
    refine List.mem_cons_of_mem _ ?_
    unfold keep1
    rw [List.mem_filter]
    refine ⟨h3 i w hi hl2, ?_⟩
    simp only [Bool.and_eq_true, Bool.not_eq_true', beq_eq_false_iff_ne, ne_eq, Bool.and_eq_false_iff]
    refine ⟨fun h => hik h.symm, ?_⟩
    by_cases h1 : i + 1 = k
    · right
      intro hc
      rw [rv_cat] at hc
      rcases w with x | r | x
      · cases hc
      · cases hc
      · have := hl ⟨x, rfl⟩
        rw [List.getElem?_set, if_pos h1.symm] at this
        split at this
        · cases this
        · cases this
    · left; exact h1
theorem LSt.put2 {k : Nat} {x : Int64} {La' : Array Slot} {lv : List (Nat × Value)} (hlen : ls.length = n) (h3 : ∀ (i : Nat) (v : PV), ls[i]? = some (some v) → ((∃ x, v = vl x) → ls[i + 1]? = some none) → (i, rv π v) ∈ lv)
    (hk : k + 1 < n) (h' : lv_has La' n ((k, Value.long x) :: keep2 k lv)) : LSt π n La' ((ls.set k (some (vl x))).set (k + 1) none) := by
  refine ⟨_, h', by simpa using hlen, ?_⟩
  intro i w hi hl
  rw [List.getElem?_set, List.getElem?_set] at hi
  by_cases h1 : k + 1 = i
  · rw [if_pos h1] at hi
    split at hi
    · cases hi
    · cases hi
  · rw [if_neg h1] at hi
    by_cases hik : k = i
    · subst hik
      simp only [if_true] at hi
      split at hi
      · cases hi
        exact List.mem_cons_self
      · cases hi
    · rw [if_neg hik] at hi
      have hl2 : (∃ x, w = vl x) → ls[i + 1]? = some none := fun hx => by
        have := hl hx
        rw [List.getElem?_set, List.getElem?_set] at this
        rw [if_neg (by omega)] at this
        by_cases h2 : k = i + 1
        · rw [if_pos h2] at this
          split at this
          · cases this
          · cases this
        · rw [if_neg h2] at this
          exact this
      refine List.mem_cons_of_mem _ ?_
      unfold keep2
      rw [List.mem_filter]
      refine ⟨h3 i w hi hl2, ?_⟩
      simp only [Bool.and_eq_true, Bool.not_eq_true', beq_eq_false_iff_ne, ne_eq, Bool.and_eq_false_iff]
      refine ⟨fun h => hik h.symm, fun h => h1 h.symm, ?_⟩
      by_cases h2 : i + 1 = k
      · right
        intro hc
        rw [rv_cat] at hc
        rcases w with x' | r | x'
        · cases hc
        · cases hc
        · have := hl ⟨x', rfl⟩
          rw [List.getElem?_set, List.getElem?_set, if_neg (by omega), if_pos h2.symm] at this
          split at this
          · cases this
          · cases this
      · left; exact h2
end LSL
theorem entL_args (π : Par) (as : List PV) : ∀ (o i : Nat) (v : PV), (entL as)[i]? = some (some v) → (o + i, rv π v) ∈ lv_args o (as.map (rv π)) := by
  induction as with
  | nil => intro o i v h; simp [entL] at h
  | cons w r ih =>
    intro o i v h
    have step1 : ∀ (h1 : entL (w :: r) = some w :: entL r) (hc : (rv π w).category ≠ 2), (o + i, rv π v) ∈ lv_args o ((w :: r).map (rv π)) := by
      intro h1 hc
      rw [h1] at h
      simp only [List.map_cons, lv_args, if_neg hc]
      cases i with
      | zero =>
        simp only [List.getElem?_cons_zero, Option.some.injEq] at h
        subst h
        exact List.mem_cons_self
      | succ i =>
        rw [List.getElem?_cons_succ] at h
        have := ih (o + 1) i v h
        rw [show o + 1 + i = o + (i + 1) by omega] at this
        exact List.mem_cons_of_mem _ this
    rcases w with x | q | x
    · exact step1 rfl (by rw [rv_cat]; simp)
    · exact step1 rfl (by rw [rv_cat]; simp)
    · simp only [List.map_cons, lv_args]
      have hc : (rv π (Sum.inr (Sum.inr x))).category = 2 := rfl
      rw [if_pos hc]
      have h1 : entL (Sum.inr (Sum.inr x) :: r) = some (vl x) :: none :: entL r := rfl
      rw [h1] at h
      match i with
      | 0 =>
        simp only [List.getElem?_cons_zero, Option.some.injEq] at h
        subst h
        exact List.mem_cons_self
      | 1 =>
        simp at h
      | i + 2 =>
        simp only [List.getElem?_cons_succ] at h
        have := ih (o + 2) i v h
        rw [show o + 2 + i = o + (i + 2) by omega] at this
        exact List.mem_cons_of_mem _ this
theorem entL_sl (π : Par) (as : List PV) : (lg_sl (as.map (rv π))).length = (entL as).length := by
  induction as with
  | nil => rfl
  | cons w r ih =>
    have e : lg_sl ((w :: r).map (rv π)) = (if (rv π w).category = 2 then [Slot.val (rv π w), Slot.second] else [Slot.val (rv π w)]) ++ lg_sl (r.map (rv π)) := by simp [lg_sl]
    rw [e, List.length_append, ih]
    rcases w with x | q | x
    · have : (rv π (Sum.inl x)).category = 1 := rfl
      rw [this]; simp [entL]; omega
    · have : (rv π (Sum.inr (Sum.inl q))).category = 1 := by rw [rv_cat]
      rw [this]; simp [entL]; omega
    · have : (rv π (Sum.inr (Sum.inr x))).category = 2 := rfl
      rw [this]; simp [entL]; omega
theorem LSt.entry (π : Par) {as : List PV} {n : Nat} (h : (entL as).length ≤ n) : LSt π n ((lg_sl (as.map (rv π)) ++ List.replicate (n - (lg_sl (as.map (rv π))).length) Slot.unset).toArray) (ent n as) := by
  refine ⟨_, lv_entry (as.map (rv π)) (n := n) (by rw [entL_sl]; exact h), by simp [ent]; omega, ?_⟩
  intro i v hi _
  unfold ent at hi
  rw [List.getElem?_append] at hi
  split at hi
  · have := entL_args π as 0 i v hi
    rwa [Nat.zero_add] at this
  · rw [List.getElem?_replicate] at hi
    split at hi
    · cases hi
    · cases hi
theorem pop_spec : ∀ (n : Nat) (acc st as rest : List PV), pop n acc st = some (as, rest) → ∃ bs : List PV, as = bs ++ acc ∧ bs.length = n ∧ st = bs.reverse ++ rest := by
  intro n
  induction n with
  | zero =>
    intro acc st as rest h
    simp only [pop, Option.some.injEq, Prod.mk.injEq] at h
    obtain ⟨rfl, rfl⟩ := h
    exact ⟨[], rfl, rfl, rfl⟩
  | succ n ih =>
    intro acc st as rest h
    cases st with
    | nil => simp [pop] at h
    | cons x st =>
      simp only [pop] at h
      obtain ⟨bs, h1, h2, h3⟩ := ih _ _ _ _ h
      refine ⟨bs ++ [x], by simp [h1], by simp [h2], by simp [h3]⟩
