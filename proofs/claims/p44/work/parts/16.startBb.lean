theorem ao_cls {s : State} {C : String} (h : (Jvm.Cond.arrayOver (.object C)).before #[] s = true) : ∃ c : ClassId, ArrOfT s c (.object C) ∧ va_RA s c (.object C) := by
  obtain ⟨comp, c, k, h1, h2, h3, h4, h5⟩ := Cond.arrayOver_spec h
  exact ⟨c, fun N z => ⟨(fun q hq => by cases hq), k, h3, comp, h4⟩, k, comp, h3, h4, h1, h5⟩
theorem ao_clsI {s : State} (h : (Jvm.Cond.arrayOver (.array .int)).before #[] s = true) : ∃ c : ClassId, ArrOfT s c (.array .int) ∧ va_RA s c (.array .int) := by
  obtain ⟨comp, c, k, h1, h2, h3, h4, h5⟩ := arrayOverA_spec h
  exact ⟨c, fun N z => ⟨(fun q hq => by cases hq), k, h3, comp, h4⟩, h5⟩
theorem ac_cls {s : State} {args : Array Value} {t : FieldType} (h : (Jvm.Cond.arrayClass t).before args s = true) (ho : ∀ C, t ≠ .object C) : ∃ c : ClassId, ArrOfT s c t ∧ va_RA s c t := by
  obtain ⟨c, k, comp, h1, h2, h3⟩ := Cond.arrayClass_spec h
  refine ⟨c, fun N z => ⟨(fun q hq => by cases hq), k, h2, comp, h3⟩, ?_⟩
  cases t <;> first | exact h1 | exact absurd rfl (ho _)
/-- the host's constants at the start -/
theorem ks_start {s : State} {b L : Nat} {xs : Nat → Int32} (hX : va_X b L xs s s.heap) (hbl : b < s.heap.size) (hts : ∀ w ∈ lw_tbl, w.before #[Value.ref b] s = true) (hg : (Jvm.Cond.and given_1 narrow_1).before #[Value.ref b] s = true) :
    ∃ (κ : Nat → Nat) (φ : Int32), KS (κ, b, s.heap.size, s.heap.size, [], φ) L xs s s.heap := by
  have hf := flat_of_before _ hg
  have hA : ∀ a : Nat, a < s.heap.size → ¬ (fun q => s.heap.size ≤ q) a := fun a ha h => by
    have : s.heap.size ≤ a := h
    omega
  obtain ⟨adK, adV, hS, hK⟩ := vk_Sof (tm := tmS) (len := lenJ) (byt := bytJ) (N := 16) (A := fun q => s.heap.size ≤ q) n_len (fun i hi => hf _ (n_ex i hi)) (fun i hi => hf _ (n_co i hi)) (fun i hi => hf _ (n_ar i hi)) (fun i hi => hf _ (n_le i hi)) (fun i hi j hj => hf _ (n_el i hi j hj)) (fun i j hi hj hij => (n_ne i hi j hj hij).imp (hf _) (hf _)) hA
  obtain ⟨tO, eO, hO⟩ := va_Tof (f := fun j => .int (dgO.getD j 0)) (A := fun q => s.heap.size ≤ q) (by decide) (hf _ n_oa) (va_eqt (hf _ n_ol)) (fun j hj => va_eqt (hf _ (n_oe j hj))) hA
  obtain ⟨tT, eT, hT⟩ := va_Tof (f := fun j => .int (dgT.getD j 0)) (A := fun q => s.heap.size ≤ q) (by decide) (hf _ n_ta) (va_eqt (hf _ n_tl)) (fun j hj => va_eqt (hf _ (n_te j hj))) hA
  have zC := va_Zof (A := fun q => s.heap.size ≤ q) (hts _ n_ls.1) (hts _ n_in.1) (va_eqt (hf _ n_cs)) hA
  have zO := va_Zof (A := fun q => s.heap.size ≤ q) (hts _ n_ls.2.1) (hts _ n_in.2.1) eO hA
  have zT := va_Zof (A := fun q => s.heap.size ≤ q) (hts _ n_ls.2.2.1) (hts _ n_in.2.1) eT hA
  have zQ := va_Zqof (A := fun q => s.heap.size ≤ q) (hts _ n_ls.2.2.2) (hts _ n_in.2.2) (hf _ n_si) hA
  obtain ⟨φ, tS, zS⟩ : ∃ (φ : Int32) (tS : Nat), va_Z "jdk/internal/util/Preconditions" "SIOOBE_FORMATTER" "Ljava/util/function/BiFunction;" (va_rf (if φ = 0 then none else some tS)) (fun q => s.heap.size ≤ q) s s.heap := by
    rcases zQ with h | ⟨t, h⟩
    · exact ⟨0, 0, h⟩
    · exact ⟨1, t, h⟩
  refine ⟨fun o => if o < 32 then (if o % 2 = 0 then adK (o / 2) else adV (o / 2)) else if o = 40 then tO else if o = 41 then tT else tS, φ, ⟨hX, hbl, hbl⟩, ⟨fun i hi => ?_, fun i j hi hj h => ?_⟩, hO, hT, zC, zO, zT, zS, fun i hi => ?_⟩
  · have e1 : ∀ (i : Nat), i < 16 → (if 2 * i < 32 then (if 2 * i % 2 = 0 then adK (2 * i / 2) else adV (2 * i / 2)) else if 2 * i = 40 then tO else if 2 * i = 41 then tT else tS) = adK i := fun i hi => by
      rw [if_pos (by omega), if_pos (by omega), show 2 * i / 2 = i by omega]
    have e2 : ∀ (i : Nat), i < 16 → (if 2 * i + 1 < 32 then (if (2 * i + 1) % 2 = 0 then adK ((2 * i + 1) / 2) else adV ((2 * i + 1) / 2)) else if 2 * i + 1 = 40 then tO else if 2 * i + 1 = 41 then tT else tS) = adV i := fun i hi => by
      rw [if_pos (by omega), if_neg (by omega), show (2 * i + 1) / 2 = i by omega]
    have := hS.1 i hi
    show va_O "java/lang/String" (if 2 * i < 32 then _ else _) _ _ _ ∧ va_OF _ _ _ _ (if 2 * i < 32 then _ else _) _ _ _ ∧ va_OF _ _ _ (.ref (if 2 * i + 1 < 32 then _ else _)) (if 2 * i < 32 then _ else _) _ _ _ ∧ va_T _ (if 2 * i + 1 < 32 then _ else _) _ _ _ _ _
    rw [e1 i hi, e2 i hi]
    exact this
  · have e1 : ∀ (i : Nat), i < 16 → (if 2 * i < 32 then (if 2 * i % 2 = 0 then adK (2 * i / 2) else adV (2 * i / 2)) else if 2 * i = 40 then tO else if 2 * i = 41 then tT else tS) = adK i := fun i hi => by
      rw [if_pos (by omega), if_pos (by omega), show 2 * i / 2 = i by omega]
    have h : (if 2 * i < 32 then (if 2 * i % 2 = 0 then adK (2 * i / 2) else adV (2 * i / 2)) else if 2 * i = 40 then tO else if 2 * i = 41 then tT else tS) = (if 2 * j < 32 then (if 2 * j % 2 = 0 then adK (2 * j / 2) else adV (2 * j / 2)) else if 2 * j = 40 then tO else if 2 * j = 41 then tT else tS) := h
    rw [e1 i hi, e1 j hj] at h
    exact hS.2 i j hi hj h
  · have e1 : (if 2 * i < 32 then (if 2 * i % 2 = 0 then adK (2 * i / 2) else adV (2 * i / 2)) else if 2 * i = 40 then tO else if 2 * i = 41 then tT else tS) = adK i := by
      rw [if_pos (by omega), if_pos (by omega), show 2 * i / 2 = i by omega]
    show vk_R RL _ _ (if 2 * i < 32 then _ else _) s
    rw [e1]
    exact vk_R.of (A := #[Value.ref b]) (hts _ (n_sr i hi)) (hK i hi)

