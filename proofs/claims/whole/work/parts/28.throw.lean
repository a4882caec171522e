/-! Methods that throw: the words beside the tables, the contract, the rows. -/
def jT_ws : List Cond := [.isRef (.static "java/lang/Throwable" "UNASSIGNED_STACK" "[Ljava/lang/StackTraceElement;"), .isRef (.static "java/lang/Throwable" "SUPPRESSED_SENTINEL" "Ljava/util/List;"), .laysStatic "java/lang/Throwable" "UNASSIGNED_STACK" "[Ljava/lang/StackTraceElement;", .laysStatic "java/lang/Throwable" "SUPPRESSED_SENTINEL" "Ljava/util/List;",
  .declares ⟨"java/lang/RuntimeException", "<init>", "()V"⟩, .declares ⟨"java/lang/Exception", "<init>", "()V"⟩, .declares ⟨"java/lang/Throwable", "<init>", "()V"⟩,
  .castable "java/lang/IllegalArgumentException" "java/lang/IllegalArgumentException", .castable "java/lang/IndexOutOfBoundsException" "java/lang/IndexOutOfBoundsException", .castable "java/lang/IllegalStateException" "java/lang/IllegalStateException", .castable "java/util/NoSuchElementException" "java/util/NoSuchElementException"]
def jT_st (U : State) : Prop := ∀ w ∈ jT_ws, w.before #[] U = true
def jT_names : List String := ["java/lang/RuntimeException", "java/lang/Exception"]
def jT_ok (ic : Nat) (X : String) : Prop := (Jvm.Bundle.ownAtoms0 "JointText" ic X jT_names).all (fun w => (decide (w ∈ lw_tbl) && goodWord w) || decide (w ∈ jT_ws)) = true
set_option maxRecDepth 100000 in
theorem jT_ok_a : jT_ok 38 "java/lang/IllegalArgumentException" := by unfold jT_ok; decide +kernel
set_option maxRecDepth 100000 in
theorem jT_ok_i : jT_ok 51 "java/lang/IndexOutOfBoundsException" := by unfold jT_ok; decide +kernel
set_option maxRecDepth 100000 in
theorem jT_ok_s : jT_ok 58 "java/lang/IllegalStateException" := by unfold jT_ok; decide +kernel
set_option maxRecDepth 100000 in
theorem jT_ok_n : jT_ok 89 "java/util/NoSuchElementException" := by unfold jT_ok; decide +kernel
theorem jT_sh : ∀ w ∈ jT_ws, w.keepsFace = true := by decide
theorem jT_args {U : State} (h : jT_st U) (a : Array Value) : ∀ w ∈ jT_ws, w.before a U = true := by
  unfold jT_st jT_ws at h
  unfold jT_ws
  simp only [List.mem_cons, List.not_mem_nil, or_false, forall_eq_or_imp, forall_eq] at h ⊢
  exact h
theorem jT_vm {s U : State} (hW : s.WarmedH U.vm) (h : jT_st s) : jT_st (s.setVm U.vm) := fun w hw => Cond.before_shiftedFace (State.Shifted.of_warmed hW) w (jT_sh w hw) (h w hw)
theorem jT_static {A B : State} (hv : B.vm = A.vm) (hh : ∀ (q : Nat) (c : Cell), A.heap[q]? = some c → B.heap[q]? = some c) {C n d : String} (h : (Cond.isRef (.static C n d)).before #[] A = true) : (Cond.isRef (.static C n d)).before #[] B = true := by
  have e : ∀ v, (Term.static C n d).eval #[] A none [] A = some v → (Term.static C n d).eval #[] B none [] B = some v := by
    intro v hv1
    simp only [Term.eval] at hv1 ⊢
    have ef : B.fieldNamed? C n d true = A.fieldNamed? C n d true := by unfold State.fieldNamed? State.fieldFound?; rw [hv]
    rw [ef]
    cases hf : A.fieldNamed? C n d true with
    | none => rw [hf] at hv1; cases hv1
    | some r =>
      rw [hf] at hv1
      obtain ⟨r1, k, r3⟩ := r
      simp only [Option.bind_eq_bind, Option.bind_some] at hv1 ⊢
      cases hs : k.statics with
      | none => rw [hs] at hv1; cases hv1
      | some a =>
        rw [hs] at hv1
        simp only [Option.bind_some] at hv1 ⊢
        cases hc : A.heap[a]? with
        | none => rw [hc] at hv1; cases hv1
        | some cell => rw [hc] at hv1; rw [hh a cell hc]; exact hv1
  simp only [Cond.before, Cond.holds, Cond.value] at h ⊢
  cases hv2 : (Term.static C n d).eval #[] A none [] A with
  | none => rw [hv2] at h; cases h
  | some v => rw [hv2] at h; rw [e v hv2]; exact h
theorem jT_lays {A B : State} (hv : B.vm = A.vm) (hh : ∀ (q : Nat) (c : Cell), A.heap[q]? = some c → B.heap[q]? = some c) {C n d : String} (h : (Cond.laysStatic C n d).before #[] A = true) : (Cond.laysStatic C n d).before #[] B = true := by
  simp only [Cond.before, Cond.holds, Cond.value] at h ⊢
  have ef : B.fieldFound? C n d = A.fieldFound? C n d := by unfold State.fieldFound?; rw [hv]
  rw [ef, hv]
  cases hc : A.vm.findClass C with
  | none => rw [hc] at h; cases h
  | some c0 =>
    rw [hc] at h
    cases hf : A.fieldFound? C n d with
    | none => rw [hf] at h; cases h
    | some r =>
      rw [hf] at h
      obtain ⟨c', k, i, f⟩ := r
      simp only at h ⊢
      cases hs : k.statics with
      | none => rw [hs] at h; cases h
      | some a =>
        rw [hs] at h
        simp only [Option.bind_some] at h ⊢
        cases hcc : A.heap[a]? with
        | none => rw [hcc] at h; cases h
        | some cell => rw [hcc] at h; rw [hh a cell hcc]; exact h
theorem jT_keep {s U : State} (hW : s.WarmedH U.vm) (hh : ∀ (q : Nat) (c : Cell), s.heap[q]? = some c → U.heap[q]? = some c) (h : jT_st s) : jT_st U := by
  have h1 := jT_vm hW h
  unfold jT_st jT_ws at h1 ⊢
  simp only [List.mem_cons, List.not_mem_nil, or_false, forall_eq_or_imp, forall_eq] at h1 ⊢
  obtain ⟨a1, a2, a3, a4, a5⟩ := h1
  exact ⟨jT_static (A := s.setVm U.vm) (B := U) rfl hh a1, jT_static (A := s.setVm U.vm) (B := U) rfl hh a2, jT_lays (A := s.setVm U.vm) (B := U) rfl hh a3, jT_lays (A := s.setVm U.vm) (B := U) rfl hh a4, a5⟩
