/-! ===== how a pure memory stands in a heap, pure locals in a frame ===== -/
def ra (b base r : Nat) : Nat := if r = 1 then b else base + (r - 2)
def ro (b base r : Nat) : Option Nat := if r = 0 then none else some (ra b base r)
def rv (b base : Nat) (v : PV) : Value := match v with
  | .inl x => .int x
  | .inr (.inl r) => va_rf (ro b base r)
  | .inr (.inr x) => .long x
def fvE (b base : Nat) (M : Mem) (k r i : Nat) : Value := if fRef k i = true then va_rf (ro b base (mR M r i)) else .int (mI M r i)
def cellE (b base : Nat) (cA : Nat → ClassId) (M : Mem) (r : Nat) : va_E :=
  if mK M r < 13 then .inr (mK M r, (List.range (nSlots (mK M r))).map (fvE b base M (mK M r) r))
  else if mK M r = 13 then .inl (cA 13, mN M r, .inl (mI M r))
  else if mK M r = 14 then .inl (cA 14, mN M r, .inr (.inl (mJ M r)))
  else .inl (cA (mK M r), mN M r, .inr (.inr (.inr (.inr (fun j => ro b base (mR M r j))))))
def wsM (b base : Nat) (cA : Nat → ClassId) (M : Mem) : va_W := (List.range (mX M - 2)).map (fun j => (base + j, cellE b base cA M (j + 2)))
def tysM (cA : Nat → ClassId) : List (ClassId × FieldType) := [(cA 13, .int), (cA 14, .long), (cA 15, .object RX8), (cA 16, .object RX9), (cA 17, .array .int)]
def Rel (b base : Nat) (D : va_G) (cA : Nat → ClassId) (L : Nat) (xs : Nat → Int32) (M : Mem) (H : Heap) : Prop :=
  va_P D vwCl (wsM b base cA M) H ∧ H.size = base + (mX M - 2) ∧ 2 ≤ mX M ∧ (∀ r, mK M r ≤ 17 → 1 ≤ r ∧ r < mX M) ∧ mK M 1 = 13 ∧ mN M 1 = L ∧ ∀ j, mI M 1 j = xs j
section RelL
variable {b base : Nat} {cA : Nat → ClassId} {M M' : Mem}
theorem ws_get {r : Nat} (h2 : 2 ≤ r) (hx : r < mX M) : (wsM b base cA M)[r - 2]? = some (base + (r - 2), cellE b base cA M r) := by
  unfold wsM
  rw [List.getElem?_map, List.getElem?_range (by omega)]
  simp only [Option.map_some]
  rw [show r - 2 + 2 = r by omega]
theorem ws_len : (wsM b base cA M).length = mX M - 2 := by simp [wsM]
theorem ws_set {r : Nat} {e : va_E} (h2 : 2 ≤ r) (hX : mX M' = mX M) (hr : cellE b base cA M' r = e) (ho : ∀ q, q ≠ r → cellE b base cA M' q = cellE b base cA M q) : (wsM b base cA M).set (r - 2) (base + (r - 2), e) = wsM b base cA M' := by
  apply List.ext_getElem?
  intro j
  unfold wsM
  rw [hX, List.getElem?_set, List.getElem?_map, List.getElem?_map, List.length_map, List.length_range]
  by_cases hj : j < mX M - 2
  · rw [List.getElem?_range hj]
    simp only [Option.map_some]
    by_cases hq : r - 2 = j
    · rw [if_pos hq, hq, if_pos hj]
      have : j + 2 = r := by omega
      rw [this, hr]
    · rw [if_neg hq, ho _ (by omega)]
  · have : (List.range (mX M - 2))[j]? = none := by rw [List.getElem?_eq_none]; simp; omega
    rw [this]
    by_cases hq : r - 2 = j
    · rw [if_pos hq, hq, if_neg hj]; rfl
    · rw [if_neg hq]; rfl
theorem ws_push (h2 : 2 ≤ mX M) (hX : mX M' = mX M + 1) (ho : ∀ q, 2 ≤ q → q < mX M → cellE b base cA M' q = cellE b base cA M q) : wsM b base cA M' = wsM b base cA M ++ [(base + (mX M - 2), cellE b base cA M' (mX M))] := by
  unfold wsM
  rw [hX, show mX M + 1 - 2 = (mX M - 2) + 1 by omega, List.range_succ, List.map_append]
  congr 1
  · apply List.map_congr_left
    intro j hj
    have := List.mem_range.mp hj
    rw [ho _ (by omega) (by omega)]
  · simp only [List.map_cons, List.map_nil]
    rw [show mX M - 2 + 2 = mX M by omega]
theorem ws_D : va_D (fun q => base ≤ q) (wsM b base cA M) := by
  refine ⟨fun i j p q hi hj he => ?_, fun k q hk => ?_⟩
  · unfold wsM at hi hj
    rw [List.getElem?_map] at hi hj
    obtain ⟨i', hi', rfl⟩ := Option.map_eq_some_iff.mp hi
    obtain ⟨j', hj', rfl⟩ := Option.map_eq_some_iff.mp hj
    have e1 := (List.getElem?_eq_some_iff.mp hi').2
    have e2 := (List.getElem?_eq_some_iff.mp hj').2
    simp only [List.getElem_range] at e1 e2
    simp only at he
    omega
  · unfold wsM at hk
    rw [List.getElem?_map] at hk
    obtain ⟨i', hi', rfl⟩ := Option.map_eq_some_iff.mp hk
    simp
end RelL
theorem rv_cat (b base : Nat) (v : PV) : (rv b base v).category = match v with | .inr (.inr _) => 2 | _ => 1 := by
  rcases v with x | r | x
  · rfl
  · show (va_rf (ro b base r)).category = 1
    unfold ro; split <;> rfl
  · rfl
/-- pure locals in a frame's: a long counts only while its second place holds nothing else -/
def LSt (b base : Nat) (n : Nat) (La : Array Slot) (ls : Loc1) : Prop :=
  ∃ lv : List (Nat × Value), lv_has La n lv ∧ ls.length = n ∧ ∀ (i : Nat) (v : PV), ls[i]? = some (some v) → ((∃ x, v = vl x) → ls[i + 1]? = some none) → (i, rv b base v) ∈ lv
section LSL
variable {b base n : Nat} {La : Array Slot} {ls : Loc1}
theorem LSt.size (h : LSt b base n La ls) : La.size = n := by obtain ⟨lv, h1, -, -⟩ := h; exact h1.1
theorem LSt.int (h : LSt b base n La ls) {i : Nat} {x : Int32} (hi : ls[i]? = some (some (vi x))) : La[i]? = some (.val (.int x)) := by
  obtain ⟨lv, h1, -, h3⟩ := h
  exact h1.2.2 (i, .int x) (h3 i (vi x) hi (fun ⟨x, hx⟩ => by cases hx))
theorem LSt.ref (h : LSt b base n La ls) {i : Nat} {r : Nat} (hi : ls[i]? = some (some (vr r))) : La[i]? = some (.val (va_rf (ro b base r))) := by
  obtain ⟨lv, h1, -, h3⟩ := h
  exact h1.2.2 (i, _) (h3 i (vr r) hi (fun ⟨x, hx⟩ => by cases hx))
theorem LSt.long (h : LSt b base n La ls) {i : Nat} {x : Int64} (hi : ls[i]? = some (some (vl x))) (h2 : ls[i + 1]? = some none) : La[i]? = some (.val (.long x)) := by
  obtain ⟨lv, h1, -, h3⟩ := h
  exact h1.2.2 (i, .long x) (h3 i (vl x) hi (fun _ => h2))
/-- what is left of locals when a value of one word is put at k -/
def keep1 (k : Nat) (lv : List (Nat × Value)) : List (Nat × Value) := lv.filter (fun q => !(q.1 == k) && !(q.1 + 1 == k && q.2.category == 2))
def keep2 (k : Nat) (lv : List (Nat × Value)) : List (Nat × Value) := lv.filter (fun q => !(q.1 == k) && (!(q.1 == k + 1) && !(q.1 + 1 == k && q.2.category == 2)))
theorem LSt.put1 {k : Nat} {v : PV} {La' : Array Slot} {lv : List (Nat × Value)} (hlen : ls.length = n) (h3 : ∀ (i : Nat) (v : PV), ls[i]? = some (some v) → ((∃ x, v = vl x) → ls[i + 1]? = some none) → (i, rv b base v) ∈ lv)
    (hk : k < n) (hv : (rv b base v).category = 1) (h' : lv_has La' n ((k, rv b base v) :: keep1 k lv)) : LSt b base n La' (ls.set k (some v)) := by
  refine ⟨_, h', by simpa using hlen, ?_⟩
  intro i w hi hl
  rw [List.getElem?_set] at hi
  by_cases hik : k = i
  · subst hik
    simp only [if_true] at hi
    split at hi
    · cases hi
      exact List.mem_cons_self
    · cases hi
  · rw [if_neg hik] at hi
    have hl2 : (∃ x, w = vl x) → ls[i + 1]? = some none := fun hx => by
      have := hl hx
      rw [List.getElem?_set] at this
      by_cases h1 : k = i + 1
      · rw [if_pos h1] at this
        split at this
        · cases this
        · cases this
      · rw [if_neg h1] at this
        exact this
    refine List.mem_cons_of_mem _ ?_
    unfold keep1
    rw [List.mem_filter]
    refine ⟨h3 i w hi hl2, ?_⟩
    simp only [Bool.and_eq_true, Bool.not_eq_true', beq_eq_false_iff_ne, ne_eq, Bool.and_eq_false_iff]
    refine ⟨fun h => hik h.symm, ?_⟩
    by_cases h1 : i + 1 = k
    · right
      intro hc
      rw [rv_cat] at hc
      rcases w with x | r | x
      · cases hc
      · cases hc
      · have := hl ⟨x, rfl⟩
        rw [List.getElem?_set, if_pos h1.symm] at this
        split at this
        · cases this
        · cases this
    · left; exact h1
theorem LSt.put2 {k : Nat} {x : Int64} {La' : Array Slot} {lv : List (Nat × Value)} (hlen : ls.length = n) (h3 : ∀ (i : Nat) (v : PV), ls[i]? = some (some v) → ((∃ x, v = vl x) → ls[i + 1]? = some none) → (i, rv b base v) ∈ lv)
    (hk : k + 1 < n) (h' : lv_has La' n ((k, Value.long x) :: keep2 k lv)) : LSt b base n La' ((ls.set k (some (vl x))).set (k + 1) none) := by
  refine ⟨_, h', by simpa using hlen, ?_⟩
  intro i w hi hl
  rw [List.getElem?_set, List.getElem?_set] at hi
  by_cases h1 : k + 1 = i
  · rw [if_pos h1] at hi
    split at hi
    · cases hi
    · cases hi
  · rw [if_neg h1] at hi
    by_cases hik : k = i
    · subst hik
      simp only [if_true] at hi
      split at hi
      · cases hi
        exact List.mem_cons_self
      · cases hi
    · rw [if_neg hik] at hi
      have hl2 : (∃ x, w = vl x) → ls[i + 1]? = some none := fun hx => by
        have := hl hx
        rw [List.getElem?_set, List.getElem?_set] at this
        rw [if_neg (by omega)] at this
        by_cases h2 : k = i + 1
        · rw [if_pos h2] at this
          split at this
          · cases this
          · cases this
        · rw [if_neg h2] at this
          exact this
      refine List.mem_cons_of_mem _ ?_
      unfold keep2
      rw [List.mem_filter]
      refine ⟨h3 i w hi hl2, ?_⟩
      simp only [Bool.and_eq_true, Bool.not_eq_true', beq_eq_false_iff_ne, ne_eq, Bool.and_eq_false_iff]
      refine ⟨fun h => hik h.symm, fun h => h1 h.symm, ?_⟩
      by_cases h2 : i + 1 = k
      · right
        intro hc
        rw [rv_cat] at hc
        rcases w with x' | r | x'
        · cases hc
        · cases hc
        · have := hl ⟨x', rfl⟩
          rw [List.getElem?_set, List.getElem?_set, if_neg (by omega), if_pos h2.symm] at this
          split at this
          · cases this
          · cases this
      · left; exact h2
end LSL
theorem entL_args (b base : Nat) (as : List PV) : ∀ (o i : Nat) (v : PV), (entL as)[i]? = some (some v) → (o + i, rv b base v) ∈ lv_args o (as.map (rv b base)) := by
  induction as with
  | nil => intro o i v h; simp [entL] at h
  | cons w r ih =>
    intro o i v h
    have step1 : ∀ (h1 : entL (w :: r) = some w :: entL r) (hc : (rv b base w).category ≠ 2), (o + i, rv b base v) ∈ lv_args o ((w :: r).map (rv b base)) := by
      intro h1 hc
      rw [h1] at h
      simp only [List.map_cons, lv_args, if_neg hc]
      cases i with
      | zero =>
        simp only [List.getElem?_cons_zero, Option.some.injEq] at h
        subst h
        exact List.mem_cons_self
      | succ i =>
        rw [List.getElem?_cons_succ] at h
        have := ih (o + 1) i v h
        rw [show o + 1 + i = o + (i + 1) by omega] at this
        exact List.mem_cons_of_mem _ this
    rcases w with x | q | x
    · exact step1 rfl (by rw [rv_cat]; simp)
    · exact step1 rfl (by rw [rv_cat]; simp)
    · simp only [List.map_cons, lv_args]
      have hc : (rv b base (Sum.inr (Sum.inr x))).category = 2 := rfl
      rw [if_pos hc]
      have h1 : entL (Sum.inr (Sum.inr x) :: r) = some (vl x) :: none :: entL r := rfl
      rw [h1] at h
      match i with
      | 0 =>
        simp only [List.getElem?_cons_zero, Option.some.injEq] at h
        subst h
        exact List.mem_cons_self
      | 1 =>
        simp at h
      | i + 2 =>
        simp only [List.getElem?_cons_succ] at h
        have := ih (o + 2) i v h
        rw [show o + 2 + i = o + (i + 2) by omega] at this
        exact List.mem_cons_of_mem _ this
theorem entL_sl (b base : Nat) (as : List PV) : (lg_sl (as.map (rv b base))).length = (entL as).length := by
  induction as with
  | nil => rfl
  | cons w r ih =>
    have e : lg_sl ((w :: r).map (rv b base)) = (if (rv b base w).category = 2 then [Slot.val (rv b base w), Slot.second] else [Slot.val (rv b base w)]) ++ lg_sl (r.map (rv b base)) := by simp [lg_sl]
    rw [e, List.length_append, ih]
    rcases w with x | q | x
    · have : (rv b base (Sum.inl x)).category = 1 := rfl
      rw [this]; simp [entL]; omega
    · have : (rv b base (Sum.inr (Sum.inl q))).category = 1 := by rw [rv_cat]
      rw [this]; simp [entL]; omega
    · have : (rv b base (Sum.inr (Sum.inr x))).category = 2 := rfl
      rw [this]; simp [entL]; omega
theorem LSt.entry (b base : Nat) {as : List PV} {n : Nat} (h : (entL as).length ≤ n) : LSt b base n ((lg_sl (as.map (rv b base)) ++ List.replicate (n - (lg_sl (as.map (rv b base))).length) Slot.unset).toArray) (ent n as) := by
  refine ⟨_, lv_entry (as.map (rv b base)) (n := n) (by rw [entL_sl]; exact h), by simp [ent]; omega, ?_⟩
  intro i v hi _
  unfold ent at hi
  rw [List.getElem?_append] at hi
  split at hi
  · have := entL_args b base as 0 i v hi
    rwa [Nat.zero_add] at this
  · rw [List.getElem?_replicate] at hi
    split at hi
    · cases hi
    · cases hi
theorem pop_spec : ∀ (n : Nat) (acc st as rest : List PV), pop n acc st = some (as, rest) → ∃ bs : List PV, as = bs ++ acc ∧ bs.length = n ∧ st = bs.reverse ++ rest := by
  intro n
  induction n with
  | zero =>
    intro acc st as rest h
    simp only [pop, Option.some.injEq, Prod.mk.injEq] at h
    obtain ⟨rfl, rfl⟩ := h
    exact ⟨[], rfl, rfl, rfl⟩
  | succ n ih =>
    intro acc st as rest h
    cases st with
    | nil => simp [pop] at h
    | cons x st =>
      simp only [pop] at h
      obtain ⟨bs, h1, h2, h3⟩ := ih _ _ _ _ h
      refine ⟨bs ++ [x], by simp [h1], by simp [h2], by simp [h3]⟩
