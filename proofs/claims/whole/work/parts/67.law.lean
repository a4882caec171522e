theorem kC_W_8 : Cond.classLink jn_W 8 "JointText" ∈ jw_tbl := jw_in 50 (by decide +kernel) (by decide +kernel)
theorem kC_W_33 : Cond.classLink jn_W 33 "JointTextModel" ∈ jw_tbl := jw_in 686 (by decide +kernel) (by decide +kernel)
theorem kI_J : Cond.instantiable "JointText" 3 ∈ jw_tbl := jw_in 51 (by decide +kernel) (by decide +kernel)
theorem kZ_J : Cond.initialized "JointText" ∈ jw_tbl := jw_in 34 (by decide +kernel) (by decide +kernel)
theorem kI_M : Cond.instantiable "JointTextModel" 24 ∈ jw_tbl := jw_in 687 (by decide +kernel) (by decide +kernel)
theorem kZ_M : Cond.initialized "JointTextModel" ∈ jw_tbl := jw_in 40 (by decide +kernel) (by decide +kernel)
theorem kA_J : Cond.arrayClass .long ∈ jw_tbl := jw_in 912 (by decide +kernel) (by decide +kernel)
theorem jL_arr {ty : FieldType} {args : Array Value} {s : State} (h : (Cond.arrayClass ty).before args s = true) : ∃ cA : ClassId, ArrOfT s cA ty ∧ s.vm.findClass ("[" ++ ty.toString) = some cA := by
  obtain ⟨c, k, comp, h1, h2, h3⟩ := Cond.arrayClass_spec h
  exact ⟨c, fun n z => ⟨fun k h => (by cases h), k, h2, comp, h3⟩, h1⟩
theorem jL_arrO {C : String} {s : State} (h : va_AO C s) : ∃ cA : ClassId, ArrOfT s cA (.object C) ∧ va_RA s cA (.object C) := by
  obtain ⟨comp, c, k, h1, h2, h3, h4, h5⟩ := Cond.arrayOver_spec h
  exact ⟨c, fun n z => ⟨fun k h => (by cases h), k, h3, comp, h4⟩, k, comp, h3, h4, h1, h5⟩
theorem jL_arrA {ty : FieldType} {s : State} (h : va_AOA ty s) : ∃ cA : ClassId, ArrOfT s cA (.array ty) ∧ va_RA s cA (.array ty) := by
  obtain ⟨comp, c, k, a, h1, h2, h3, h4, h5⟩ := va_AOA.spec h
  exact ⟨c, fun n z => ⟨fun k h => (by cases h), k, h3, a, h4⟩, h5⟩
def jL_D (a : List (ClassId × (Nat → Nat))) : va_G := (fun k => ((a[k]?).getD (0, fun _ => 0)).1, fun k => ((a[k]?).getD (0, fun _ => 0)).2)
theorem jL_K {s : State} {args : Array Value} (ht : ∀ w ∈ jw_tbl, w.before args s = true) {tys : List (ClassId × FieldType)} (hty : ∀ q ∈ tys, ArrOfT s q.1 q.2 ∧ va_RA s q.1 q.2) : ∃ D : va_G, va_K D jw_cl tys s := by
  obtain ⟨c0, s0, k0⟩ := u_known ht ji_C (ht _ kI_C)
  obtain ⟨c1, s1, k1⟩ := u_known ht ji_L (ht _ kI_L)
  obtain ⟨c2, s2, k2⟩ := u_known ht ji_G (ht _ kI_G)
  obtain ⟨c3, s3, k3⟩ := u_known ht ji_S (ht _ kI_S)
  obtain ⟨c4, s4, k4⟩ := u_known ht ji_T (ht _ kI_T)
  obtain ⟨c5, s5, k5⟩ := u_known ht ji_J (ht _ kI_J)
  obtain ⟨c6, s6, k6⟩ := u_known ht ji_M (ht _ kI_M)
  refine ⟨jL_D [(c0, s0), (c1, s1), (c2, s2), (c3, s3), (c4, s4), (c5, s5), (c6, s6)], fun c q hq => ?_, fun k q hk => hty q (List.mem_of_getElem? hk)⟩
  match c, hq with
  | 0, hq => cases hq; exact k0
  | 1, hq => cases hq; exact k1
  | 2, hq => cases hq; exact k2
  | 3, hq => cases hq; exact k3
  | 4, hq => cases hq; exact k4
  | 5, hq => cases hq; exact k5
  | 6, hq => cases hq; exact k6
  | n + 7, hq => cases hq
def jL_X0 : jt_X := (fun _ => nI 0, fun _ => nI 0, fun _ => nI 0, fun _ => nI 0, fun _ => nI 0)
def jL_Y0 : jt_Y := (fun _ => nI 0, fun _ => nI 0, fun _ => nI 0, jt_tx (fun _ => (0, 0, 0, 0)) 0)
def jL_P0 : jq_P := (fun _ => (0, 0, 0, 0), fun _ => 0, fun _ => 0, fun _ => 0, fun _ => 0, fun _ => 0, fun _ => 0, fun _ => 0, fun _ => 0, fun _ => (0, 0, 0, 0, 0), 0, 0, 0, 0)
theorem jL_I0 : jL_I (jt_s_0, fun _ => jL_X0, jL_Y0, fun _ _ => nI 0) :=
  ⟨⟨jt_inv_0, fun c hc i => by show 0 < 4; decide⟩, fun c hc => ⟨fun i hi => absurd hi (Nat.not_lt_zero _), fun i hi => absurd hi (Nat.not_lt_zero _), fun i hi => absurd hi (Nat.not_lt_zero _)⟩, ⟨fun i hi => absurd hi (Nat.not_lt_zero _), fun i hi => absurd hi (Nat.not_lt_zero _), Nat.zero_le _, fun _ => rfl⟩, fun k hk => absurd hk (Nat.not_lt_zero _)⟩
theorem jL_st {s : State} {b : Nat} (hts : ∀ w ∈ lw_tbl, w.before #[Value.ref b] s = true) (hgv : (Jvm.Cond.and given_1 narrow_1).before #[Value.ref b] s = true) : jT_st s := by
  have hq := flat_of_before _ hgv
  unfold jT_st jT_ws
  simp only [List.mem_cons, List.not_mem_nil, or_false, forall_eq_or_imp, forall_eq]
  exact ⟨hq (Cond.isRef (.static "java/lang/Throwable" "UNASSIGNED_STACK" "[Ljava/lang/StackTraceElement;")) (by decide +kernel), hq (Cond.isRef (.static "java/lang/Throwable" "SUPPRESSED_SENTINEL" "Ljava/util/List;")) (by decide +kernel), hts (Cond.laysStatic "java/lang/Throwable" "UNASSIGNED_STACK" "[Ljava/lang/StackTraceElement;") (List.mem_of_getElem? (i := 544) (by decide +kernel)), hts (Cond.laysStatic "java/lang/Throwable" "SUPPRESSED_SENTINEL" "Ljava/util/List;") (List.mem_of_getElem? (i := 546) (by decide +kernel)), hts (Cond.declares ⟨"java/lang/RuntimeException", "<init>", "()V"⟩) (List.mem_of_getElem? (i := 520) (by decide +kernel)), hts (Cond.declares ⟨"java/lang/Exception", "<init>", "()V"⟩) (List.mem_of_getElem? (i := 522) (by decide +kernel)), hts (Cond.declares ⟨"java/lang/Throwable", "<init>", "()V"⟩) (List.mem_of_getElem? (i := 524) (by decide +kernel)), hts (Cond.castable "java/lang/IllegalArgumentException" "java/lang/IllegalArgumentException") (List.mem_of_getElem? (i := 519) (by decide +kernel)), hts (Cond.castable "java/lang/IndexOutOfBoundsException" "java/lang/IndexOutOfBoundsException") (List.mem_of_getElem? (i := 583) (by decide +kernel)), hts (Cond.castable "java/lang/IllegalStateException" "java/lang/IllegalStateException") (List.mem_of_getElem? (i := 607) (by decide +kernel)), hts (Cond.castable "java/util/NoSuchElementException" "java/util/NoSuchElementException") (List.mem_of_getElem? (i := 652) (by decide +kernel))⟩
theorem jL_nc {s : State} {b : Nat} (hgv : (Jvm.Cond.and given_1 narrow_1).before #[Value.ref b] s = true) : jT_nc s := by
  have hq := flat_of_before _ hgv
  unfold jT_nc jT_pairs
  simp only [List.mem_cons, List.not_mem_nil, or_false, forall_eq_or_imp, forall_eq]
  exact ⟨hq (Cond.not (.castable "java/lang/IndexOutOfBoundsException" "java/lang/IllegalArgumentException")) (by decide +kernel), hq (Cond.not (.castable "java/lang/IllegalStateException" "java/lang/IllegalArgumentException")) (by decide +kernel), hq (Cond.not (.castable "java/lang/IllegalStateException" "java/lang/IndexOutOfBoundsException")) (by decide +kernel), hq (Cond.not (.castable "java/util/NoSuchElementException" "java/lang/IllegalArgumentException")) (by decide +kernel), hq (Cond.not (.castable "java/lang/IllegalStateException" "java/util/NoSuchElementException")) (by decide +kernel), hq (Cond.not (.castable "java/lang/IndexOutOfBoundsException" "java/lang/IllegalStateException")) (by decide +kernel)⟩
theorem jL_ns {s : State} {b : Nat} (hts : ∀ w ∈ lw_tbl, w.before #[Value.ref b] s = true) : jN_st s := by
  unfold jN_st jN_ws
  simp only [List.mem_cons, List.not_mem_nil, or_false, forall_eq_or_imp, forall_eq]
  exact ⟨va_Nw.of rfl (hts _ (List.mem_of_getElem? (i := 67) (by decide +kernel))), va_Nw.of rfl (hts _ (List.mem_of_getElem? (i := 81) (by decide +kernel))), va_Nw.of rfl (hts _ (List.mem_of_getElem? (i := 129) (by decide +kernel))), va_Nw.of rfl (hts _ (List.mem_of_getElem? (i := 134) (by decide +kernel))), va_Nw.of rfl (hts _ (List.mem_of_getElem? (i := 157) (by decide +kernel)))⟩
