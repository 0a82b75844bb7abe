/-! ===== a run of the evaluator is a run of the machine ===== -/
theorem gvW_form : ∀ w ∈ gvW, (∃ (a : String) (i : Nat) (x : MethodName) (h : String), w = Jvm.Cond.methodLinkNest a i x h) ∨ (∃ (C T : String), w = Jvm.Cond.castable C T) := by
  intro w hw
  simp only [gvW, List.mem_cons, List.not_mem_nil, or_false] at hw
  rcases hw with h | h | h | h | h | h <;> subst h <;> first | exact Or.inl ⟨_, _, _, _, rfl⟩ | exact Or.inr ⟨_, _, rfl⟩
theorem ao_moved {t : FieldType} {u U : State} (hvm : u.vm.Alike U.vm) (h : (Jvm.Cond.arrayOver (.array t)).before #[] u = true) : (Jvm.Cond.arrayOver (.array t)).before #[] U = true := by
  obtain ⟨comp, c, k, h1, h2, h3, h4, h5⟩ := arrayOverA_spec h
  obtain ⟨k', hk', he⟩ := hvm.2.2 _ _ h3
  have hi : (U.vm.classes.findIdx? fun (x : Class) => match x.kind with | .array component _ => component == comp | _ => false) = some c := by
    have e1 := va_idx_bare U.vm comp
    have e2 := va_idx_bare u.vm comp
    rw [hvm.bare_eq] at e1
    exact (e1.symm.trans e2).trans h2
  have hkind : k'.kind = .array comp (.array t) := by rw [he]; exact h4
  have f1 : U.vm.findClass (FieldType.array t).toString = some comp := by rw [hvm.findClass]; exact h1
  have f2 : U.vm.findClass ("[" ++ (FieldType.array t).toString) = some c := by rw [hvm.findClass]; exact h5
  unfold Cond.before Cond.holds
  simp only [Cond.value]
  rw [f1, Option.bind_some]
  refine (congrArg (fun o : Option Nat => (o.bind (fun c => (U.vm.classes[c]?).map fun (k : Class) => match k.kind with | .array _ ty => decide (ty = FieldType.array t) && decide (U.vm.findClass ("[" ++ (FieldType.array t).toString) = some c) | _ => false) == some true)) hi).trans ?_
  simp [hk', hkind, f2]
theorem GV.warm {s U : State} (hW : s.WarmedH U.vm) (h : GV s) : GV U := by
  refine ⟨fun w hw => ?_, h.2.1.moved hW.alike, h.2.2.1.moved hW.alike, ao_moved hW.alike h.2.2.2⟩
  have := h.1 w hw
  rcases gvW_form w hw with ⟨a, i, x, hh, rfl⟩ | ⟨C, T, rfl⟩
  · exact va_Nw.warmM hW this
  · exact va_Nw.warmC hW this
theorem GV.same {s U : State} (hv : s.vm = U.vm) (h : GV s) : GV U := by
  have ha : s.vm.Alike U.vm := by rw [hv]; exact Vm.Alike.refl _
  refine ⟨fun w hw => ?_, h.2.1.moved ha, h.2.2.1.moved ha, ao_moved ha h.2.2.2⟩
  have := h.1 w hw
  rcases gvW_form w hw with ⟨a, i, x, hh, rfl⟩ | ⟨C, T, rfl⟩
  · exact va_Nw.same rfl hv this
  · exact va_Nw.same rfl hv this
abbrev wY (y : Nat) : List Jvm.Cond := Jvm.Cond.code (mY y) (mC y) (mL y) (mT y) :: TS
abbrev rmD (d mc ms : Nat) : Room := { frames := d + 1, cells := mc, slots := ms, locals := 40 * (d + 1) }
/-- what holds at a call: the arguments, the memory, the tables -/
def PcE (π : Par) (L : Nat) (xs : Nat → Int32) (D : va_G) (cA : Nat → ClassId) (M : Mem) (as : List PV) : Array Value → State → Prop :=
  va_Pc (as.map (rv π)) (fun U => Rel π D cA L xs M U.heap ∧ va_K D vwCl (tysM cA) U ∧ GV U ∧ KS π L xs U U.heap)
def QcE (π : Par) (L : Nat) (xs : Nat → Int32) (D : va_G) (cA : Nat → ClassId) (v : Option PV) (M : Mem) : Array Value → State → Outcome → State → Prop := match v with
  | none => va_Qv (fun _ : Unit => True) (fun _ t => Rel π D cA L xs M t.heap) (fun q => pA π ≤ q)
  | some (.inl x) => va_Qi (fun r (_ : Unit) => r = x) (fun _ t => Rel π D cA L xs M t.heap) (fun q => pA π ≤ q)
  | some (.inr (.inl r)) => va_Qr (fun _ : Unit => True) (fun _ a t => 2 ≤ r ∧ a = ra π r ∧ Rel π D cA L xs M t.heap) (fun q => pA π ≤ q)
  | some (.inr (.inr x)) => va_Ql (fun r (_ : Unit) => r = x) (fun _ t => Rel π D cA L xs M t.heap) (fun q => pA π ≤ q)
theorem PcE.blind {π : Par} {L : Nat} {xs : Nat → Int32} {D : va_G} {cA : Nat → ClassId} {M : Mem} {as : List PV} : FrameBlind (PcE π L xs D cA M as) := by
  rintro a U g mk ⟨h1, h2, h3, h4, h5⟩
  exact ⟨h1, h2, va_K.moved (u := U) (U := U.calling g mk a) (Vm.Alike.refl U.vm) h3, GV.same (s := U) (U := U.calling g mk a) rfl h4, KS.same (s := U) (U := U.calling g mk a) rfl h5⟩
theorem ex_mono {y c pc n : Nat} {i : Instr} {ls : Loc1} {st : List PV} {M : Mem} {t : St1} (he : ex y c i n pc ls st M = some t) : mX M ≤ mX t.2.2.2 ∧ mS M ≤ mS t.2.2.2 := by
  cases i <;> simp only [ex] at he <;> (try (cases he; done)) <;>
    (first
      | (simp only [e_c, e_ldc, e_ldcS, e_ldl, e_ld, e_st, e_inc, e_b, e_d, e_u, e_cv, e_lb, e_stk, e_if, e_ic, jmp, e_nul, e_sw, e_lsw, e_get, e_put, e_iald, e_iast, e_lald, e_last, e_aald, e_aast, e_alen, e_new, e_nwa, e_anw, e_mnw, e_bald, e_bast, e_gets, e_cln, e_cast, e_call, e_bi] at he
         repeat' (split at he)
         all_goals first
           | (cases he; exact ⟨Nat.le_refl _, Nat.le_refl _⟩)
           | (cases he; exact ⟨Nat.le_add_right _ _, Nat.le_add_right _ _⟩)
           | (cases he; exact ⟨by show _ ≤ _ + 1 + _; omega, by show _ ≤ _ + _ + _; omega⟩)
           | (cases he; done)))
theorem run_mono : ∀ (f d y pc : Nat) (ls : Loc1) (st : List PV) (M : Mem) (r : Option PV × Mem), run f d y pc ls st M = some r → mX M ≤ mX r.2 ∧ mS M ≤ mS r.2 := by
  intro f
  induction f with
  | zero => intro d y pc ls st M r h; simp [run] at h
  | succ f ih =>
    intro d y pc ls st M r h
    unfold run at h
    split at h
    · rename_i i n hd
      split at h
      · split at h
        · cases h; exact ⟨Nat.le_refl _, Nat.le_refl _⟩
        · split at h
          · split at h
            · cases h
            · split at h
              · rename_i v M1 h1
                have a := ih _ _ _ _ _ _ _ h1
                have b := ih _ _ _ _ _ _ _ h
                exact ⟨Nat.le_trans a.1 b.1, Nat.le_trans a.2 b.2⟩
              · cases h
          · split at h
            · rename_i he
              have a := ex_mono he
              have b := ih _ _ _ _ _ _ _ h
              exact ⟨Nat.le_trans a.1 b.1, Nat.le_trans a.2 b.2⟩
            · cases h
      · cases h
    · cases h
