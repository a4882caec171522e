theorem jN_pl {f : Nat → va_E} {r : Nat → Nat} {cI : ClassId} : va_pl ([] ++ (List.range 30).map r) (vr_up f ((List.range 30).map r) (.inl (cI, 6, .inl (fun _ => nI 0)))) = jx_r r cI (fun _ _ => nI 0) := by
  unfold va_pl jx_r
  rw [List.nil_append, List.map_map]
  apply List.map_congr_left
  intro k hk
  show (r k, vr_up f _ _ (r k)) = _
  rw [vr_up_in (List.mem_map_of_mem hk)]
theorem va_AOA.spec {ty : FieldType} {u : State} (h : va_AOA ty u) : ∃ comp c k a, u.vm.findClass (FieldType.array ty).toString = some comp ∧ (u.vm.classes.findIdx? fun (x : Class) => match x.kind with | .array component _ => component == comp | _ => false) = some c ∧ u.vm.classes[c]? = some k ∧ k.kind = .array a (.array ty) ∧ u.vm.findClass ("[" ++ (FieldType.array ty).toString) = some c := by
  unfold va_AOA at h
  simp only [Cond.before, Cond.holds, Cond.value, beq_iff_eq] at h
  cases h1 : u.vm.findClass (FieldType.array ty).toString with
  | none => simp [h1] at h
  | some comp =>
    rw [h1, Option.bind_some] at h
    obtain ⟨c, h2, h⟩ := Option.bind_eq_some_iff.mp h
    obtain ⟨k, h3, h⟩ := Option.map_eq_some_iff.mp h
    cases h4 : k.kind with
    | array a t =>
      simp only [h4, Bool.and_eq_true, decide_eq_true_eq] at h
      exact ⟨comp, c, k, a, rfl, h2, h3, by rw [h4, h.1], h.2⟩
    | _ => simp [h4] at h
theorem va_AOA.kept {ty : FieldType} {u U : State} (hvm : u.vm.Alike U.vm) (h : va_AOA ty u) : va_AOA ty U := by
  obtain ⟨comp, c, k, a, h1, h2, h3, h4, h5⟩ := va_AOA.spec h
  obtain ⟨k2, hk2, he⟩ := hvm.2.2 _ _ h3
  have hi : (U.vm.classes.findIdx? fun (x : Class) => match x.kind with | .array component _ => component == comp | _ => false) = some c := by
    have q1 := va_idx_bare U.vm comp
    have q2 := va_idx_bare u.vm comp
    first | rw [hvm.bare_eq] at q1 | rw [← hvm.bare_eq] at q1
    exact q1.symm.trans (q2.trans h2)
  have hkind : k2.kind = .array a (.array ty) := by rw [he]; exact h4
  have f1 : U.vm.findClass (FieldType.array ty).toString = some comp := by rw [hvm.findClass]; exact h1
  have f2 : U.vm.findClass ("[" ++ (FieldType.array ty).toString) = some c := by rw [hvm.findClass]; exact h5
  unfold va_AOA Cond.before Cond.holds
  simp only [Cond.value]
  rw [f1, Option.bind_some]
  refine (congrArg (fun o : Option Nat => (o.bind (fun c => (U.vm.classes[c]?).map fun (k : Class) => match k.kind with | .array _ t => decide (t = FieldType.array ty) && decide (U.vm.findClass ("[" ++ (FieldType.array ty).toString) = some c) | _ => false) == some true)) hi).trans ?_
  simp [hk2, hkind, f2]
