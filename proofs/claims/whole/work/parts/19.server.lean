/-- the rows of the journal hold the history -/
def jt_rs (so sn : Nat → Int32) (H : Nat → jt_O) (N : Nat) (num : Nat → Nat) : Prop := ∀ i, i < N → so i = nI (jt_po (H i)) ∧ sn i = nI (num i)
theorem jt_rs_up {so sn : Nat → Int32} {H : Nat → jt_O} {N : Nat} {num : Nat → Nat} {o : jt_O} {n : Nat} (h : jt_rs so sn H N num) : jt_rs (upd so N (nI (jt_po o))) (upd sn N (nI n)) (va_up H N o) (N + 1) (va_up num N n) := by
  intro i hi
  by_cases e : i = N
  · subst e
    rw [pk_us, pk_us, va_up_self, va_up_self]
    exact ⟨rfl, rfl⟩
  · rw [pk_un e, pk_un e, va_up_ne _ _ e, va_up_ne _ _ e]
    exact h i (by omega)
theorem jt_hsm {H : Nat → jt_O} {N : Nat} (hH : jt_all H N) (hN : N ≤ 60) : ∀ i, i < N → jt_sm (H i) := fun i hi => by
  have h3 := jt_le_le H i
  exact jt_sm_of (hH i hi).1 (hH i hi).2 (by omega)
theorem jt_mssm {H : Nat → jt_O} {N r : Nat} {o : jt_O} (hH : jt_all H N) (hN : N ≤ 60) (ho : jt_ok (jt_le H r) o) (hw : jt_wf o) : ∀ j, r + j ≤ N → jt_sm (jt_ms H r o j) := fun j hj => by
  have h3 := jt_le_le H (r + j)
  exact jt_sm_of (jt_ms_ok hH ho j hj) (jt_ms_wf hw j) (by omega)

set_option maxHeartbeats 4000000 in
set_option maxRecDepth 100000 in
theorem m_S_written (l : Launch) (D : va_G) (z ao an th : Nat) (v3 v4 v5 : Int32) : Met l y_S_written w_S_written ({ frames := 0, cells := 0, slots := 0, locals := 0 }) (jw_P [.ref z] D jw_cl [(z, .inr (3, [.ref th, .ref ao, .ref an, .int v3, .int v4, .int v5]))] []) (k2_QcV (.int v3)) 0 0 (fun _ => False) := by
  refine Met.ofW (cc := c_S_written) (maxL := 1) (ret := (some .int)) (by decide) rfl ?_
  intro pg0 en0 s m args below meth cd0 s₁ B hml hv
  obtain ⟨rfl, hP, hK⟩ := hv
  have hx := B.exec
  have hb := B.bytes
  have hr := B.returns
  have hts := atoms_spec (ws := w_S_written) B.pre
  have ht : ∀ w ∈ jw_tbl, w.before _ s = true := fun w h => hts w (List.mem_cons_of_mem _ h)
  have hown : s.vm.findClass jn_S = some m.cls := findClass_of_methodNamed B.named
  have hlocks := B.notSynchronized
  have hl := lv_entry ([.ref z]) (n := 1) (Nat.le_of_ble_eq_true rfl)
  rw [lg_entry_eq]
  generalize (lg_sl ([.ref z]) ++ List.replicate (1 - (lg_sl ([.ref z])).length) Slot.unset).toArray = ls at hl ⊢
  have hl : lv_has ls 1 [(0, .ref z)] := hl
  refine lv_aload_n hx hb d_S_written_0 rfl (lv_at hl 0 rfl) ?_
  refine va_get (D := D) (ci := 3) (v := .int v3) (C := jn_S) (T := jf_S) (N := 6) hx hb ht ji_S hown hK hP 0 rfl rfl 3 (by decide) (ht _ k_S_25) (fun _ h9 => h9) rfl d_S_written_1 ?_
  exact W.iret (v := v3) hx hb hr (fun t9 ht9 _ => ⟨rfl, ht9⟩) (fun q h => by cases h) d_S_written_4

set_option maxHeartbeats 4000000 in
set_option maxRecDepth 100000 in
theorem m_S_hasWritten (l : Launch) (D : va_G) (z ao an th : Nat) (v3 v4 v5 : Int32) (x : Int32) : Met l y_S_hasWritten w_S_hasWritten ({ frames := 0, cells := 0, slots := 0, locals := 0 }) (jw_P [.ref z, .int x] D jw_cl [(z, .inr (3, [.ref th, .ref ao, .ref an, .int v3, .int v4, .int v5]))] []) (k2_QcV (.int (jw_b (decide (¬ x < 0 ∧ ¬ v3 ≤ x))))) 0 0 (fun _ => False) := by
  refine Met.ofW (cc := c_S_hasWritten) (maxL := 2) (ret := (some .boolean)) (by decide) rfl ?_
  intro pg0 en0 s m args below meth cd0 s₁ B hml hv
  obtain ⟨rfl, hP, hK⟩ := hv
  have hx := B.exec
  have hb := B.bytes
  have hr := B.returns
  have hts := atoms_spec (ws := w_S_hasWritten) B.pre
  have ht : ∀ w ∈ jw_tbl, w.before _ s = true := fun w h => hts w (List.mem_cons_of_mem _ h)
  have hown : s.vm.findClass jn_S = some m.cls := findClass_of_methodNamed B.named
  have hlocks := B.notSynchronized
  have hl := lv_entry ([.ref z, .int x]) (n := 2) (Nat.le_of_ble_eq_true rfl)
  rw [lg_entry_eq]
  generalize (lg_sl ([.ref z, .int x]) ++ List.replicate (2 - (lg_sl ([.ref z, .int x])).length) Slot.unset).toArray = ls at hl ⊢
  have hl : lv_has ls 2 [(0, .ref z), (1, .int x)] := hl
  refine lv_iload_n hx hb d_S_hasWritten_0 rfl (lv_at hl 1 rfl) ?_
  refine lv_if_lt (tgt := 16) hx hb d_S_hasWritten_1 (by decide) (fun h1 => ?_) (fun h1 => ?_)
  · skip
    refine lv_iconst (v := nI 0) hx hb d_S_hasWritten_16 (by decide) ?_
    exact W.zret (v := nI 0) hx hb hr (by decide) (fun t9 ht9 _ => ⟨congrArg (fun z => Outcome.returned (some (Value.int z))) (by simp [jw_b, *]), ht9⟩) (fun q h => by cases h) d_S_hasWritten_17
  · skip
    refine lv_iload_n hx hb d_S_hasWritten_4 rfl (lv_at hl 1 rfl) ?_
    refine lv_aload_n hx hb d_S_hasWritten_5 rfl (lv_at hl 0 rfl) ?_
    refine va_get (D := D) (ci := 3) (v := .int v3) (C := jn_S) (T := jf_S) (N := 6) hx hb ht ji_S hown hK hP 0 rfl rfl 3 (by decide) (ht _ k_S_25) (fun _ h9 => h9) rfl d_S_hasWritten_6 ?_
    refine lv_icmp_ge (tgt := 16) hx hb d_S_hasWritten_9 (by decide) (fun h9 => ?_) (fun h9 => ?_)
    · skip
      refine lv_iconst (v := nI 0) hx hb d_S_hasWritten_16 (by decide) ?_
      exact W.zret (v := nI 0) hx hb hr (by decide) (fun t9 ht9 _ => ⟨congrArg (fun z => Outcome.returned (some (Value.int z))) (by simp [jw_b, *]), ht9⟩) (fun q h => by cases h) d_S_hasWritten_17
    · skip
      refine lv_iconst (v := nI 1) hx hb d_S_hasWritten_12 (by decide) ?_
      refine lv_goto (tgt := 17) hx hb d_S_hasWritten_13 (by decide) ?_
      exact W.zret (v := nI 1) hx hb hr (by decide) (fun t9 ht9 _ => ⟨congrArg (fun z => Outcome.returned (some (Value.int z))) (by simp [jw_b, *]), ht9⟩) (fun q h => by cases h) d_S_hasWritten_17

set_option maxHeartbeats 4000000 in
set_option maxRecDepth 100000 in
theorem m_S_isFull (l : Launch) (D : va_G) (z ao an th : Nat) (v4 v5 : Int32) (n : Nat) (hn : n ≤ 60) : Met l y_S_isFull w_S_isFull ({ frames := 0, cells := 0, slots := 0, locals := 0 }) (jw_P [.ref z] D jw_cl [(z, .inr (3, [.ref th, .ref ao, .ref an, .int (nI n), .int v4, .int v5]))] []) (k2_QcV (.int (jw_b (decide (60 ≤ n))))) 0 0 (fun _ => False) := by
  refine Met.ofW (cc := c_S_isFull) (maxL := 1) (ret := (some .boolean)) (by decide) rfl ?_
  intro pg0 en0 s m args below meth cd0 s₁ B hml hv
  obtain ⟨rfl, hP, hK⟩ := hv
  have hx := B.exec
  have hb := B.bytes
  have hr := B.returns
  have hts := atoms_spec (ws := w_S_isFull) B.pre
  have ht : ∀ w ∈ jw_tbl, w.before _ s = true := fun w h => hts w (List.mem_cons_of_mem _ h)
  have hown : s.vm.findClass jn_S = some m.cls := findClass_of_methodNamed B.named
  have hlocks := B.notSynchronized
  have hl := lv_entry ([.ref z]) (n := 1) (Nat.le_of_ble_eq_true rfl)
  rw [lg_entry_eq]
  generalize (lg_sl ([.ref z]) ++ List.replicate (1 - (lg_sl ([.ref z])).length) Slot.unset).toArray = ls at hl ⊢
  have hl : lv_has ls 1 [(0, .ref z)] := hl
  refine lv_aload_n hx hb d_S_isFull_0 rfl (lv_at hl 0 rfl) ?_
  refine va_get (D := D) (ci := 3) (v := .int (nI n)) (C := jn_S) (T := jf_S) (N := 6) hx hb ht ji_S hown hK hP 0 rfl rfl 3 (by decide) (ht _ k_S_25) (fun _ h9 => h9) rfl d_S_isFull_1 ?_
  refine lv_bipush (v := nI 60) hx hb d_S_isFull_4 (by decide) ?_
  refine lv_icmp_lt (tgt := 13) hx hb d_S_isFull_6 (by decide) (fun h6 => ?_) (fun h6 => ?_)
  · skip
    have h6 := jw_lt (by omega) (by omega) h6
    refine lv_iconst (v := nI 0) hx hb d_S_isFull_13 (by decide) ?_
    exact W.zret (v := nI 0) hx hb hr (by decide) (fun t9 ht9 _ => ⟨congrArg (fun z => Outcome.returned (some (Value.int z))) (by simp [jw_b]; omega), ht9⟩) (fun q h => by cases h) d_S_isFull_14
  · skip
    have h6 := jw_nlt (by omega) (by omega) h6
    refine lv_iconst (v := nI 1) hx hb d_S_isFull_9 (by decide) ?_
    refine lv_goto (tgt := 14) hx hb d_S_isFull_10 (by decide) ?_
    exact W.zret (v := nI 1) hx hb hr (by decide) (fun t9 ht9 _ => ⟨congrArg (fun z => Outcome.returned (some (Value.int z))) (by simp [jw_b]; omega), ht9⟩) (fun q h => by cases h) d_S_isFull_14

set_option maxHeartbeats 4000000 in
set_option maxRecDepth 100000 in
theorem m_S_isUp (l : Launch) (D : va_G) (z ao an th : Nat) (v3 v5 : Int32) (n : Nat) (hn : n ≤ 1) : Met l y_S_isUp w_S_isUp ({ frames := 0, cells := 0, slots := 0, locals := 0 }) (jw_P [.ref z] D jw_cl [(z, .inr (3, [.ref th, .ref ao, .ref an, .int v3, .int (nI n), .int v5]))] []) (k2_QcV (.int (nI n))) 0 0 (fun _ => False) := by
  refine Met.ofW (cc := c_S_isUp) (maxL := 1) (ret := (some .boolean)) (by decide) rfl ?_
  intro pg0 en0 s m args below meth cd0 s₁ B hml hv
  obtain ⟨rfl, hP, hK⟩ := hv
  have hx := B.exec
  have hb := B.bytes
  have hr := B.returns
  have hts := atoms_spec (ws := w_S_isUp) B.pre
  have ht : ∀ w ∈ jw_tbl, w.before _ s = true := fun w h => hts w (List.mem_cons_of_mem _ h)
  have hown : s.vm.findClass jn_S = some m.cls := findClass_of_methodNamed B.named
  have hlocks := B.notSynchronized
  have hl := lv_entry ([.ref z]) (n := 1) (Nat.le_of_ble_eq_true rfl)
  rw [lg_entry_eq]
  generalize (lg_sl ([.ref z]) ++ List.replicate (1 - (lg_sl ([.ref z])).length) Slot.unset).toArray = ls at hl ⊢
  have hl : lv_has ls 1 [(0, .ref z)] := hl
  refine lv_aload_n hx hb d_S_isUp_0 rfl (lv_at hl 0 rfl) ?_
  refine va_get (D := D) (ci := 3) (v := .int (nI n)) (C := jn_S) (T := jf_S) (N := 6) hx hb ht ji_S hown hK hP 0 rfl rfl 4 (by decide) (ht _ k_S_29) (fun _ h9 => h9) rfl d_S_isUp_1 ?_
  exact W.zret (v := nI n) hx hb hr (jw_nb hn) (fun t9 ht9 _ => ⟨rfl, ht9⟩) (fun q h => by cases h) d_S_isUp_4

set_option maxHeartbeats 4000000 in
set_option maxRecDepth 100000 in
theorem m_S_opAt (l : Launch) (D : va_G) (z ao an th : Nat) (v3 v4 v5 : Int32) (cI : ClassId) (f : Nat → Int32) (i : Nat) (hi : i < 60) : Met l y_S_opAt w_S_opAt ({ frames := 0, cells := 0, slots := 0, locals := 0 }) (jw_P [.ref z, .int (nI i)] D jw_cl [(z, .inr (3, [.ref th, .ref ao, .ref an, .int v3, .int v4, .int v5])), (ao, .inl (cI, 60, .inl f))] [(cI, .int)]) (k2_QcV (.int (f i))) 0 0 (fun _ => False) := by
  refine Met.ofW (cc := c_S_opAt) (maxL := 2) (ret := (some .int)) (by decide) rfl ?_
  intro pg0 en0 s m args below meth cd0 s₁ B hml hv
  obtain ⟨rfl, hP, hK⟩ := hv
  have hx := B.exec
  have hb := B.bytes
  have hr := B.returns
  have hts := atoms_spec (ws := w_S_opAt) B.pre
  have ht : ∀ w ∈ jw_tbl, w.before _ s = true := fun w h => hts w (List.mem_cons_of_mem _ h)
  have hown : s.vm.findClass jn_S = some m.cls := findClass_of_methodNamed B.named
  have hlocks := B.notSynchronized
  have hl := lv_entry ([.ref z, .int (nI i)]) (n := 2) (Nat.le_of_ble_eq_true rfl)
  rw [lg_entry_eq]
  generalize (lg_sl ([.ref z, .int (nI i)]) ++ List.replicate (2 - (lg_sl ([.ref z, .int (nI i)])).length) Slot.unset).toArray = ls at hl ⊢
  have hl : lv_has ls 2 [(0, .ref z), (1, .int (nI i))] := hl
  refine lv_aload_n hx hb d_S_opAt_0 rfl (lv_at hl 0 rfl) ?_
  refine va_get (D := D) (ci := 3) (v := .ref ao) (C := jn_S) (T := jf_S) (N := 6) hx hb ht ji_S hown hK hP 0 rfl rfl 1 (by decide) (ht _ k_S_18) (fun _ h9 => h9) rfl d_S_opAt_1 ?_
  refine lv_iload_n hx hb d_S_opAt_4 rfl (lv_at hl 1 rfl) ?_
  refine va_iald hx hb hK hP 1 0 rfl rfl (vp_in_nI (by omega) (by decide)) d_S_opAt_5 ?_
  rw [show (nI i).toNatClampNeg = i from nI_clamp (by omega)]
  exact W.iret (v := f i) hx hb hr (fun t9 ht9 _ => ⟨rfl, ht9⟩) (fun q h => by cases h) d_S_opAt_6

set_option maxHeartbeats 4000000 in
set_option maxRecDepth 100000 in
theorem m_S_numberAt (l : Launch) (D : va_G) (z ao an th : Nat) (v3 v4 v5 : Int32) (cI : ClassId) (f : Nat → Int32) (i : Nat) (hi : i < 60) : Met l y_S_numberAt w_S_numberAt ({ frames := 0, cells := 0, slots := 0, locals := 0 }) (jw_P [.ref z, .int (nI i)] D jw_cl [(z, .inr (3, [.ref th, .ref ao, .ref an, .int v3, .int v4, .int v5])), (an, .inl (cI, 60, .inl f))] [(cI, .int)]) (k2_QcV (.int (f i))) 0 0 (fun _ => False) := by
  refine Met.ofW (cc := c_S_numberAt) (maxL := 2) (ret := (some .int)) (by decide) rfl ?_
  intro pg0 en0 s m args below meth cd0 s₁ B hml hv
  obtain ⟨rfl, hP, hK⟩ := hv
  have hx := B.exec
  have hb := B.bytes
  have hr := B.returns
  have hts := atoms_spec (ws := w_S_numberAt) B.pre
  have ht : ∀ w ∈ jw_tbl, w.before _ s = true := fun w h => hts w (List.mem_cons_of_mem _ h)
  have hown : s.vm.findClass jn_S = some m.cls := findClass_of_methodNamed B.named
  have hlocks := B.notSynchronized
  have hl := lv_entry ([.ref z, .int (nI i)]) (n := 2) (Nat.le_of_ble_eq_true rfl)
  rw [lg_entry_eq]
  generalize (lg_sl ([.ref z, .int (nI i)]) ++ List.replicate (2 - (lg_sl ([.ref z, .int (nI i)])).length) Slot.unset).toArray = ls at hl ⊢
  have hl : lv_has ls 2 [(0, .ref z), (1, .int (nI i))] := hl
  refine lv_aload_n hx hb d_S_numberAt_0 rfl (lv_at hl 0 rfl) ?_
  refine va_get (D := D) (ci := 3) (v := .ref an) (C := jn_S) (T := jf_S) (N := 6) hx hb ht ji_S hown hK hP 0 rfl rfl 2 (by decide) (ht _ k_S_22) (fun _ h9 => h9) rfl d_S_numberAt_1 ?_
  refine lv_iload_n hx hb d_S_numberAt_4 rfl (lv_at hl 1 rfl) ?_
  refine va_iald hx hb hK hP 1 0 rfl rfl (vp_in_nI (by omega) (by decide)) d_S_numberAt_5 ?_
  rw [show (nI i).toNatClampNeg = i from nI_clamp (by omega)]
  exact W.iret (v := f i) hx hb hr (fun t9 ht9 _ => ⟨rfl, ht9⟩) (fun q h => by cases h) d_S_numberAt_6

set_option maxHeartbeats 4000000 in
set_option maxRecDepth 100000 in
theorem m_S_setTrip (l : Launch) (D : va_G) (sz : Nat) (z ao an th : Nat) (v3 v4 v5 : Int32) (n : Nat) : Met l y_S_setTrip w_S_setTrip ({ frames := 0, cells := 0, slots := 0, locals := 0 }) (jw_C [.ref z, .int (nI n)] D jw_cl [(z, .inr (3, [.ref th, .ref ao, .ref an, .int v3, .int v4, .int v5]))] [] sz) (va_Qv (fun _ : Unit => True) (jw_B D jw_cl (va_A [(z, .inr (3, [.ref th, .ref ao, .ref an, .int v3, .int v4, .int v5]))] sz) (fun _ => [(z, .inr (3, [.ref th, .ref ao, .ref an, .int v3, .int v4, .int (nI n)]))])) (va_A [(z, .inr (3, [.ref th, .ref ao, .ref an, .int v3, .int v4, .int v5]))] sz)) 0 0 (va_A [(z, .inr (3, [.ref th, .ref ao, .ref an, .int v3, .int v4, .int v5]))] sz) := by
  refine Met.ofW (cc := c_S_setTrip) (maxL := 2) (ret := none) (by decide) rfl ?_
  intro pg0 en0 s m args below meth cd0 s₁ B hml hv
  obtain ⟨rfl, hsz, hP, hK, hD0⟩ := hv
  have hx := B.exec
  have hb := B.bytes
  have hr := B.returns
  have hts := atoms_spec (ws := w_S_setTrip) B.pre
  have ht : ∀ w ∈ jw_tbl, w.before _ s = true := fun w h => hts w (List.mem_cons_of_mem _ h)
  have hown : s.vm.findClass jn_S = some m.cls := findClass_of_methodNamed B.named
  have hlocks := B.notSynchronized
  subst hsz
  have hD := hD0.self (sz := s.heap.size)
  generalize hAe : va_A [(z, .inr (3, [.ref th, .ref ao, .ref an, .int v3, .int v4, .int v5]))] s.heap.size = A at hD ⊢
  have hA : ∀ q : Nat, s.heap.size ≤ q → A q := fun q h => by rw [← hAe]; exact Or.inr h
  have hS : va_S A s.heap s.heap [] := va_S.rf
  have hP : va_P D jw_cl [(z, .inr (3, [.ref th, .ref ao, .ref an, .int v3, .int v4, .int v5]))] s.heap := hP
  have hl := lv_entry ([.ref z, .int (nI n)]) (n := 2) (Nat.le_of_ble_eq_true rfl)
  rw [lg_entry_eq]
  generalize (lg_sl ([.ref z, .int (nI n)]) ++ List.replicate (2 - (lg_sl ([.ref z, .int (nI n)])).length) Slot.unset).toArray = ls at hl ⊢
  have hl : lv_has ls 2 [(0, .ref z), (1, .int (nI n))] := hl
  refine lv_aload_n hx hb d_S_setTrip_0 rfl (lv_at hl 0 rfl) ?_
  refine lv_iload_n hx hb d_S_setTrip_1 rfl (lv_at hl 1 rfl) ?_
  refine va_put (D := D) (ci := 3) (v := .int (nI n)) (ty := .int) (C := jn_S) (T := jf_S) (N := 6) hx hb ht ji_S jy_S jo_S jm_S hown hK hP hD hS 0 rfl rfl 5 (by decide) (ht _ k_S_33) (fun _ h9 => h9) rfl (by decide +kernel) rfl rfl (Nat.le_of_ble_eq_true rfl) d_S_setTrip_2 (fun H locs hP hD hS => ?_)
  have hP : va_P D jw_cl [(z, .inr (3, [.ref th, .ref ao, .ref an, .int v3, .int v4, .int (nI n)]))] H := hP
  have hD : va_D A [(z, .inr (3, [.ref th, .ref ao, .ref an, .int v3, .int v4, .int (nI n)]))] := hD
  exact W.vret hx hb hr (fun t9 ht9 hW9 => ⟨⟨(), rfl, trivial, by rw [ht9]; exact hP, hD⟩, hS.F ht9⟩) hS.2.2 d_S_setTrip_5

set_option maxHeartbeats 4000000 in
set_option maxRecDepth 100000 in
theorem m_S_goDown (l : Launch) (D : va_G) (sz : Nat) (z ao an th : Nat) (v3 v4 v5 : Int32) : Met l y_S_goDown w_S_goDown ({ frames := 0, cells := 0, slots := 0, locals := 0 }) (jw_C [.ref z] D jw_cl [(z, .inr (3, [.ref th, .ref ao, .ref an, .int v3, .int v4, .int v5]))] [] sz) (va_Qv (fun _ : Unit => True) (jw_B D jw_cl (va_A [(z, .inr (3, [.ref th, .ref ao, .ref an, .int v3, .int v4, .int v5]))] sz) (fun _ => [(z, .inr (3, [.ref th, .ref ao, .ref an, .int v3, .int (nI 0), .int v5]))])) (va_A [(z, .inr (3, [.ref th, .ref ao, .ref an, .int v3, .int v4, .int v5]))] sz)) 0 0 (va_A [(z, .inr (3, [.ref th, .ref ao, .ref an, .int v3, .int v4, .int v5]))] sz) := by
  refine Met.ofW (cc := c_S_goDown) (maxL := 1) (ret := none) (by decide) rfl ?_
  intro pg0 en0 s m args below meth cd0 s₁ B hml hv
  obtain ⟨rfl, hsz, hP, hK, hD0⟩ := hv
  have hx := B.exec
  have hb := B.bytes
  have hr := B.returns
  have hts := atoms_spec (ws := w_S_goDown) B.pre
  have ht : ∀ w ∈ jw_tbl, w.before _ s = true := fun w h => hts w (List.mem_cons_of_mem _ h)
  have hown : s.vm.findClass jn_S = some m.cls := findClass_of_methodNamed B.named
  have hlocks := B.notSynchronized
  subst hsz
  have hD := hD0.self (sz := s.heap.size)
  generalize hAe : va_A [(z, .inr (3, [.ref th, .ref ao, .ref an, .int v3, .int v4, .int v5]))] s.heap.size = A at hD ⊢
  have hA : ∀ q : Nat, s.heap.size ≤ q → A q := fun q h => by rw [← hAe]; exact Or.inr h
  have hS : va_S A s.heap s.heap [] := va_S.rf
  have hP : va_P D jw_cl [(z, .inr (3, [.ref th, .ref ao, .ref an, .int v3, .int v4, .int v5]))] s.heap := hP
  have hl := lv_entry ([.ref z]) (n := 1) (Nat.le_of_ble_eq_true rfl)
  rw [lg_entry_eq]
  generalize (lg_sl ([.ref z]) ++ List.replicate (1 - (lg_sl ([.ref z])).length) Slot.unset).toArray = ls at hl ⊢
  have hl : lv_has ls 1 [(0, .ref z)] := hl
  refine lv_aload_n hx hb d_S_goDown_0 rfl (lv_at hl 0 rfl) ?_
  refine lv_iconst (v := nI 0) hx hb d_S_goDown_1 (by decide) ?_
  refine va_put (D := D) (ci := 3) (v := .int (nI 0)) (ty := .boolean) (C := jn_S) (T := jf_S) (N := 6) hx hb ht ji_S jy_S jo_S jm_S hown hK hP hD hS 0 rfl rfl 4 (by decide) (ht _ k_S_29) (fun _ h9 => h9) rfl (by decide +kernel) rfl rfl (Nat.le_of_ble_eq_true rfl) d_S_goDown_2 (fun H locs hP hD hS => ?_)
  have hP : va_P D jw_cl [(z, .inr (3, [.ref th, .ref ao, .ref an, .int v3, .int (nI 0), .int v5]))] H := hP
  have hD : va_D A [(z, .inr (3, [.ref th, .ref ao, .ref an, .int v3, .int (nI 0), .int v5]))] := hD
  exact W.vret hx hb hr (fun t9 ht9 hW9 => ⟨⟨(), rfl, trivial, by rw [ht9]; exact hP, hD⟩, hS.F ht9⟩) hS.2.2 d_S_goDown_5

set_option maxHeartbeats 4000000 in
set_option maxRecDepth 100000 in
theorem m_S_comeUp (l : Launch) (D : va_G) (sz : Nat) (z ao an th ta : Nat) (cI : ClassId) (so sn tf : Nat → Int32) (H0 : Nat → jt_O) (N0 up tr : Nat) (num : Nat → Nat) (t : jt_T) (hs : jt_rs so sn H0 N0 num) (hH : jt_all H0 N0) (hN : N0 ≤ 60) : Met l y_S_comeUp w_S_comeUp ({ frames := 3, cells := 0, slots := 0, locals := 65 }) (jw_C [.ref z] D jw_cl [(z, .inr (3, [.ref th, .ref ao, .ref an, .int (nI N0), .int (nI up), .int (nI tr)])), (ao, .inl (cI, 60, .inl so)), (an, .inl (cI, 60, .inl sn)), (th, .inr (4, [.ref ta, .int (nI t.2)])), (ta, .inl (cI, 68, .inl tf))] [(cI, .int)] sz) (va_Qv (fun u : Nat → Int32 => jt_rt u (jt_tx H0 N0)) (jw_B D jw_cl (va_A [(z, .inr (3, [.ref th, .ref ao, .ref an, .int (nI N0), .int (nI up), .int (nI tr)])), (ao, .inl (cI, 60, .inl so)), (an, .inl (cI, 60, .inl sn)), (th, .inr (4, [.ref ta, .int (nI t.2)])), (ta, .inl (cI, 68, .inl tf))] sz) (fun u : Nat → Int32 => [(z, .inr (3, [.ref th, .ref ao, .ref an, .int (nI N0), .int (nI 1), .int (nI 0)])), (ao, .inl (cI, 60, .inl so)), (an, .inl (cI, 60, .inl sn)), (th, .inr (4, [.ref ta, .int (nI ((jt_tx H0 N0).2))])), (ta, .inl (cI, 68, .inl u))])) (va_A [(z, .inr (3, [.ref th, .ref ao, .ref an, .int (nI N0), .int (nI up), .int (nI tr)])), (ao, .inl (cI, 60, .inl so)), (an, .inl (cI, 60, .inl sn)), (th, .inr (4, [.ref ta, .int (nI t.2)])), (ta, .inl (cI, 68, .inl tf))] sz)) 0 0 (va_A [(z, .inr (3, [.ref th, .ref ao, .ref an, .int (nI N0), .int (nI up), .int (nI tr)])), (ao, .inl (cI, 60, .inl so)), (an, .inl (cI, 60, .inl sn)), (th, .inr (4, [.ref ta, .int (nI t.2)])), (ta, .inl (cI, 68, .inl tf))] sz) := by
  refine Met.ofW (cc := c_S_comeUp) (maxL := 2) (ret := none) (by decide) rfl ?_
  intro pg0 en0 s m args below meth cd0 s₁ B hml hv
  obtain ⟨rfl, hsz, hP, hK, hD0⟩ := hv
  have hx := B.exec
  have hb := B.bytes
  have hr := B.returns
  have hts := atoms_spec (ws := w_S_comeUp) B.pre
  have ht : ∀ w ∈ jw_tbl, w.before _ s = true := fun w h => hts w (List.mem_cons_of_mem _ h)
  have hown : s.vm.findClass jn_S = some m.cls := findClass_of_methodNamed B.named
  have hlocks := B.notSynchronized
  subst hsz
  have hD := hD0.self (sz := s.heap.size)
  generalize hAe : va_A [(z, .inr (3, [.ref th, .ref ao, .ref an, .int (nI N0), .int (nI up), .int (nI tr)])), (ao, .inl (cI, 60, .inl so)), (an, .inl (cI, 60, .inl sn)), (th, .inr (4, [.ref ta, .int (nI t.2)])), (ta, .inl (cI, 68, .inl tf))] s.heap.size = A at hD ⊢
  have hA : ∀ q : Nat, s.heap.size ≤ q → A q := fun q h => by rw [← hAe]; exact Or.inr h
  have hS : va_S A s.heap s.heap [] := va_S.rf
  have hP : va_P D jw_cl [(z, .inr (3, [.ref th, .ref ao, .ref an, .int (nI N0), .int (nI up), .int (nI tr)])), (ao, .inl (cI, 60, .inl so)), (an, .inl (cI, 60, .inl sn)), (th, .inr (4, [.ref ta, .int (nI t.2)])), (ta, .inl (cI, 68, .inl tf))] s.heap := hP
  have hl := lv_entry ([.ref z]) (n := 2) (Nat.le_of_ble_eq_true rfl)
  rw [lg_entry_eq]
  generalize (lg_sl ([.ref z]) ++ List.replicate (2 - (lg_sl ([.ref z])).length) Slot.unset).toArray = ls at hl ⊢
  have hl : lv_has ls 2 [(0, .ref z)] := hl
  have hhsm := jt_hsm hH hN
  refine lv_aload_n hx hb d_S_comeUp_0 rfl (lv_at hl 0 rfl) ?_
  refine lv_iconst (v := nI 1) hx hb d_S_comeUp_1 (by decide) ?_
  refine va_put (D := D) (ci := 3) (v := .int (nI 1)) (ty := .boolean) (C := jn_S) (T := jf_S) (N := 6) hx hb ht ji_S jy_S jo_S jm_S hown hK hP hD hS 0 rfl rfl 4 (by decide) (ht _ k_S_29) (fun _ h9 => h9) rfl (by decide +kernel) rfl rfl (Nat.le_of_ble_eq_true rfl) d_S_comeUp_2 (fun H locs hP hD hS => ?_)
  have hP : va_P D jw_cl [(z, .inr (3, [.ref th, .ref ao, .ref an, .int (nI N0), .int (nI 1), .int (nI tr)])), (ao, .inl (cI, 60, .inl so)), (an, .inl (cI, 60, .inl sn)), (th, .inr (4, [.ref ta, .int (nI t.2)])), (ta, .inl (cI, 68, .inl tf))] H := hP
  have hD : va_D A [(z, .inr (3, [.ref th, .ref ao, .ref an, .int (nI N0), .int (nI 1), .int (nI tr)])), (ao, .inl (cI, 60, .inl so)), (an, .inl (cI, 60, .inl sn)), (th, .inr (4, [.ref ta, .int (nI t.2)])), (ta, .inl (cI, 68, .inl tf))] := hD
  refine lv_aload_n hx hb d_S_comeUp_5 rfl (lv_at hl 0 rfl) ?_
  refine lv_iconst (v := nI 0) hx hb d_S_comeUp_6 (by decide) ?_
  refine va_put (D := D) (ci := 3) (v := .int (nI 0)) (ty := .int) (C := jn_S) (T := jf_S) (N := 6) hx hb ht ji_S jy_S jo_S jm_S hown hK hP hD hS 0 rfl rfl 5 (by decide) (ht _ k_S_33) (fun _ h9 => h9) rfl (by decide +kernel) rfl rfl (Nat.le_of_ble_eq_true rfl) d_S_comeUp_7 (fun H locs hP hD hS => ?_)
  have hP : va_P D jw_cl [(z, .inr (3, [.ref th, .ref ao, .ref an, .int (nI N0), .int (nI 1), .int (nI 0)])), (ao, .inl (cI, 60, .inl so)), (an, .inl (cI, 60, .inl sn)), (th, .inr (4, [.ref ta, .int (nI t.2)])), (ta, .inl (cI, 68, .inl tf))] H := hP
  have hD : va_D A [(z, .inr (3, [.ref th, .ref ao, .ref an, .int (nI N0), .int (nI 1), .int (nI 0)])), (ao, .inl (cI, 60, .inl so)), (an, .inl (cI, 60, .inl sn)), (th, .inr (4, [.ref ta, .int (nI t.2)])), (ta, .inl (cI, 68, .inl tf))] := hD
  refine lv_aload_n hx hb d_S_comeUp_10 rfl (lv_at hl 0 rfl) ?_
  refine va_get (D := D) (ci := 3) (v := .ref th) (C := jn_S) (T := jf_S) (N := 6) hx hb ht ji_S hown hK hP 0 rfl rfl 0 (by decide) (ht _ k_S_12) (fun _ h9 => h9) rfl d_S_comeUp_11 ?_
  refine jw_jv (ws := [(z, .inr (3, [.ref th, .ref ao, .ref an, .int (nI N0), .int (nI 1), .int (nI 0)])), (ao, .inl (cI, 60, .inl so)), (an, .inl (cI, 60, .inl sn)), (th, .inr (4, [.ref ta, .int (nI t.2)])), (ta, .inl (cI, 68, .inl tf))]) (wc := [(th, .inr (4, [.ref ta, .int (nI t.2)]))]) (wr := [(z, .inr (3, [.ref th, .ref ao, .ref an, .int (nI N0), .int (nI 1), .int (nI 0)])), (ao, .inl (cI, 60, .inl so)), (an, .inl (cI, 60, .inl sn)), (ta, .inl (cI, 68, .inl tf))]) (jw_uV (As := []) (rest := []) hx hb hml hown ht (m_T_empty l D _ th ta _) (o_T_empty) k_S_36 rfl rfl ⟨Nat.le_of_ble_eq_true rfl, Nat.le_of_ble_eq_true rfl⟩ (hP.sub [3] rfl) (hK.sub [] rfl) (hD.sub [3] (by decide) rfl) (va_recv (q0 := 3) (ci := 4) hK hP rfl rfl) rfl hl.1 rfl (Nat.le_of_ble_eq_true rfl) d_S_comeUp_14 ⟨Nat.zero_le _, Nat.zero_le _⟩) hP hD hS hA [3] [0, 1, 2, 4] rfl rfl (by decide) (by decide) (fun u1 H locs hu1 hP hD hS => ?_)
  have hP : va_P D jw_cl [(z, .inr (3, [.ref th, .ref ao, .ref an, .int (nI N0), .int (nI 1), .int (nI 0)])), (ao, .inl (cI, 60, .inl so)), (an, .inl (cI, 60, .inl sn)), (ta, .inl (cI, 68, .inl tf)), (th, .inr (4, [.ref ta, .int (nI 0)]))] H := hP
  have hD : va_D A [(z, .inr (3, [.ref th, .ref ao, .ref an, .int (nI N0), .int (nI 1), .int (nI 0)])), (ao, .inl (cI, 60, .inl so)), (an, .inl (cI, 60, .inl sn)), (ta, .inl (cI, 68, .inl tf)), (th, .inr (4, [.ref ta, .int (nI 0)]))] := hD
  refine lv_iconst (v := nI 0) hx hb d_S_comeUp_17 (by decide) ?_
  refine lv_istore_n (lv' := [(1, .int (nI 0)), (0, .ref z)]) hx hb d_S_comeUp_18 rfl hl (by decide) rfl (fun ls hl => ?_)
  have hP := hP.sub (ws' := [(z, .inr (3, [.ref th, .ref ao, .ref an, .int (nI N0), .int (nI 1), .int (nI 0)])), (ao, .inl (cI, 60, .inl so)), (an, .inl (cI, 60, .inl sn)), (th, .inr (4, [.ref ta, .int (nI 0)])), (ta, .inl (cI, 68, .inl tf))]) [0, 1, 2, 4, 3] rfl
  have hD := hD.sub (ws' := [(z, .inr (3, [.ref th, .ref ao, .ref an, .int (nI N0), .int (nI 1), .int (nI 0)])), (ao, .inl (cI, 60, .inl so)), (an, .inl (cI, 60, .inl sn)), (th, .inr (4, [.ref ta, .int (nI 0)])), (ta, .inl (cI, 68, .inl tf))]) [0, 1, 2, 4, 3] (by decide) rfl
  refine jw_loop (I := fun k ls H locs => ∃ (i : Nat) (tf2 : Nat → Int32), k = N0 - i ∧ i ≤ N0 ∧ lv_has ls 2 [(1, .int (nI i)), (0, .ref z)] ∧ jt_rt tf2 (jt_tx H0 i) ∧ va_P D jw_cl [(z, .inr (3, [.ref th, .ref ao, .ref an, .int (nI N0), .int (nI 1), .int (nI 0)])), (ao, .inl (cI, 60, .inl so)), (an, .inl (cI, 60, .inl sn)), (th, .inr (4, [.ref ta, .int (nI ((jt_tx H0 i).2))])), (ta, .inl (cI, 68, .inl tf2))] H ∧ va_D A [(z, .inr (3, [.ref th, .ref ao, .ref an, .int (nI N0), .int (nI 1), .int (nI 0)])), (ao, .inl (cI, 60, .inl so)), (an, .inl (cI, 60, .inl sn)), (th, .inr (4, [.ref ta, .int (nI ((jt_tx H0 i).2))])), (ta, .inl (cI, 68, .inl tf2))] ∧ va_S A s.heap H locs) N0 ⟨0, tf, rfl, Nat.zero_le _, hl, fun j hj => absurd hj (Nat.not_lt_zero _), hP, hD, hS⟩ (fun k ls H locs hI ih => ?_)
  obtain ⟨i, tf2, hk, hi1, hl, ht2, hP, hD, hS⟩ := hI
  refine lv_iload_n hx hb d_S_comeUp_19 rfl (lv_at hl 0 rfl) ?_
  refine lv_aload_n hx hb d_S_comeUp_20 rfl (lv_at hl 1 rfl) ?_
  refine va_get (D := D) (ci := 3) (v := .int (nI N0)) (C := jn_S) (T := jf_S) (N := 6) hx hb ht ji_S hown hK hP 0 rfl rfl 3 (by decide) (ht _ k_S_25) (fun _ h9 => h9) rfl d_S_comeUp_21 ?_
  refine lv_icmp_ge (tgt := 47) hx hb d_S_comeUp_24 (by decide) (fun h24 => ?_) (fun h24 => ?_)
  · skip
    have h24 := jw_ge (by omega) (by omega) h24
    have ei : i = N0 := by omega
    rw [ei] at ht2 hP hD
    exact W.vret hx hb hr (fun t9 ht9 hW9 => ⟨⟨tf2, rfl, ht2, by rw [ht9]; exact hP, hD⟩, hS.F ht9⟩) hS.2.2 d_S_comeUp_47
  · skip
    have h24 := jw_nge (by omega) (by omega) h24
    refine lv_aload_n hx hb d_S_comeUp_27 rfl (lv_at hl 1 rfl) ?_
    refine va_get (D := D) (ci := 3) (v := .ref th) (C := jn_S) (T := jf_S) (N := 6) hx hb ht ji_S hown hK hP 0 rfl rfl 0 (by decide) (ht _ k_S_12) (fun _ h9 => h9) rfl d_S_comeUp_28 ?_
    refine lv_aload_n hx hb d_S_comeUp_31 rfl (lv_at hl 1 rfl) ?_
    refine va_get (D := D) (ci := 3) (v := .ref ao) (C := jn_S) (T := jf_S) (N := 6) hx hb ht ji_S hown hK hP 0 rfl rfl 1 (by decide) (ht _ k_S_18) (fun _ h9 => h9) rfl d_S_comeUp_32 ?_
    refine lv_iload_n hx hb d_S_comeUp_35 rfl (lv_at hl 0 rfl) ?_
    refine va_iald hx hb hK hP 1 0 rfl rfl (vp_in_nI (by omega) (by decide)) d_S_comeUp_36 ?_
    rw [show (nI i).toNatClampNeg = i from nI_clamp (by omega)]
    rw [show so i = nI (jt_po (H0 i)) from (hs i (by omega)).1]
    refine jw_ji (ws := [(z, .inr (3, [.ref th, .ref ao, .ref an, .int (nI N0), .int (nI 1), .int (nI 0)])), (ao, .inl (cI, 60, .inl so)), (an, .inl (cI, 60, .inl sn)), (th, .inr (4, [.ref ta, .int (nI ((jt_tx H0 i).2))])), (ta, .inl (cI, 68, .inl tf2))]) (wc := [(th, .inr (4, [.ref ta, .int (nI ((jt_tx H0 i).2))])), (ta, .inl (cI, 68, .inl tf2))]) (wr := [(z, .inr (3, [.ref th, .ref ao, .ref an, .int (nI N0), .int (nI 1), .int (nI 0)])), (ao, .inl (cI, 60, .inl so)), (an, .inl (cI, 60, .inl sn))]) (jw_uV (As := [.int (nI (jt_po (H0 i)))]) (rest := []) hx hb hml hown ht (m_T_perform l D _ th ta cI tf2 (jt_tx H0 i) ht2 (by have : (jt_tx H0 i).2 ≤ i := jt_le_le H0 i; omega) (H0 i) (hhsm i (by omega)) (hH i (by omega)).1 (fun _ => by have : (jt_tx H0 i).2 ≤ i := jt_le_le H0 i; omega)) (o_T_perform) k_S_39 rfl rfl ⟨Nat.le_of_ble_eq_true rfl, Nat.le_of_ble_eq_true rfl⟩ (hP.sub [3, 4] rfl) (hK.sub [0] rfl) (hD.sub [3, 4] (by decide) rfl) (va_recv (q0 := 3) (ci := 4) hK hP rfl rfl) rfl hl.1 rfl (Nat.le_of_ble_eq_true rfl) d_S_comeUp_37 ⟨Nat.zero_le _, Nat.zero_le _⟩) hP hD hS hA [3, 4] [0, 1, 2] rfl rfl (by decide) (by decide) (fun r4 u3 H locs hu3 hP hD hS => ?_)
    have hP : va_P D jw_cl [(z, .inr (3, [.ref th, .ref ao, .ref an, .int (nI N0), .int (nI 1), .int (nI 0)])), (ao, .inl (cI, 60, .inl so)), (an, .inl (cI, 60, .inl sn)), (th, .inr (4, [.ref ta, .int (nI ((jt_pf (jt_tx H0 i) (H0 i)).2))])), (ta, .inl (cI, 68, .inl u3))] H := hP
    have hD : va_D A [(z, .inr (3, [.ref th, .ref ao, .ref an, .int (nI N0), .int (nI 1), .int (nI 0)])), (ao, .inl (cI, 60, .inl so)), (an, .inl (cI, 60, .inl sn)), (th, .inr (4, [.ref ta, .int (nI ((jt_pf (jt_tx H0 i) (H0 i)).2))])), (ta, .inl (cI, 68, .inl u3))] := hD
    refine lv_pop hx hb d_S_comeUp_40 rfl ?_
    refine lv_iinc (v := nI (i + 1)) (lv' := [(1, .int (nI (i + 1))), (0, .ref z)]) hx hb d_S_comeUp_41 hl (k := 0) rfl (show nI _ + Int32.ofInt 1 = nI _ from nI_add _ 1) (by decide) rfl (fun ls hl => ?_)
    refine lv_goto (tgt := 19) hx hb d_S_comeUp_44 (by decide) ?_
    have hP := hP.sub (ws' := [(z, .inr (3, [.ref th, .ref ao, .ref an, .int (nI N0), .int (nI 1), .int (nI 0)])), (ao, .inl (cI, 60, .inl so)), (an, .inl (cI, 60, .inl sn)), (th, .inr (4, [.ref ta, .int (nI ((jt_pf (jt_tx H0 i) (H0 i)).2))])), (ta, .inl (cI, 68, .inl u3))]) [0, 1, 2, 3, 4] rfl
    have hD := hD.sub (ws' := [(z, .inr (3, [.ref th, .ref ao, .ref an, .int (nI N0), .int (nI 1), .int (nI 0)])), (ao, .inl (cI, 60, .inl so)), (an, .inl (cI, 60, .inl sn)), (th, .inr (4, [.ref ta, .int (nI ((jt_pf (jt_tx H0 i) (H0 i)).2))])), (ta, .inl (cI, 68, .inl u3))]) [0, 1, 2, 3, 4] (by decide) rfl
    exact ih _ ls H locs (by omega) ⟨i + 1, u3, rfl, by omega, hl, hu3.2, hP, hD, hS⟩

set_option maxHeartbeats 4000000 in
set_option maxRecDepth 100000 in
theorem m_S_countOf (l : Launch) (D : va_G) (z ao an th : Nat) (cI : ClassId) (v4 v5 : Int32) (so : Nat → Int32) (H0 : Nat → jt_O) (N0 : Nat) (hs : ∀ i, i < N0 → so i = nI (jt_po (H0 i))) (hH : jt_all H0 N0) (hN : N0 ≤ 60) (a : Nat) (ha : a < 100) : Met l y_S_countOf w_S_countOf ({ frames := 1, cells := 0, slots := 0, locals := 20 }) (jw_P [.ref z, .int (nI a)] D jw_cl [(z, .inr (3, [.ref th, .ref ao, .ref an, .int (nI N0), .int v4, .int v5])), (ao, .inl (cI, 60, .inl so))] [(cI, .int)]) (k2_QcV (.int (nI (jt_ct H0 a N0)))) 0 0 (fun _ => False) := by
  refine Met.ofW (cc := c_S_countOf) (maxL := 4) (ret := (some .int)) (by decide) rfl ?_
  intro pg0 en0 s m args below meth cd0 s₁ B hml hv
  obtain ⟨rfl, hP, hK⟩ := hv
  have hx := B.exec
  have hb := B.bytes
  have hr := B.returns
  have hts := atoms_spec (ws := w_S_countOf) B.pre
  have ht : ∀ w ∈ jw_tbl, w.before _ s = true := fun w h => hts w (List.mem_cons_of_mem _ h)
  have hown : s.vm.findClass jn_S = some m.cls := findClass_of_methodNamed B.named
  have hlocks := B.notSynchronized
  have hl := lv_entry ([.ref z, .int (nI a)]) (n := 4) (Nat.le_of_ble_eq_true rfl)
  rw [lg_entry_eq]
  generalize (lg_sl ([.ref z, .int (nI a)]) ++ List.replicate (4 - (lg_sl ([.ref z, .int (nI a)])).length) Slot.unset).toArray = ls at hl ⊢
  have hl : lv_has ls 4 [(0, .ref z), (1, .int (nI a))] := hl
  have hhsm := jt_hsm hH hN
  refine lv_iconst (v := nI 0) hx hb d_S_countOf_0 (by decide) ?_
  refine lv_istore_n (lv' := [(2, .int (nI 0)), (0, .ref z), (1, .int (nI a))]) hx hb d_S_countOf_1 rfl hl (by decide) rfl (fun ls hl => ?_)
  refine lv_iconst (v := nI 0) hx hb d_S_countOf_2 (by decide) ?_
  refine lv_istore_n (lv' := [(3, .int (nI 0)), (2, .int (nI 0)), (0, .ref z), (1, .int (nI a))]) hx hb d_S_countOf_3 rfl hl (by decide) rfl (fun ls hl => ?_)
  refine jw_loopR (I := fun k ls => ∃ i, k = N0 - i ∧ i ≤ N0 ∧ lv_has ls 4 [(3, .int (nI i)), (2, .int (nI (jt_ct H0 a i))), (0, .ref z), (1, .int (nI a))]) N0 ⟨0, rfl, Nat.zero_le _, hl⟩ (fun k ls hI ih => ?_)
  obtain ⟨i, hk, hi1, hl⟩ := hI
  have hct := jt_ct_k H0 a i
  refine lv_iload_n hx hb d_S_countOf_4 rfl (lv_at hl 0 rfl) ?_
  refine lv_aload_n hx hb d_S_countOf_5 rfl (lv_at hl 2 rfl) ?_
  refine va_get (D := D) (ci := 3) (v := .int (nI N0)) (C := jn_S) (T := jf_S) (N := 6) hx hb ht ji_S hown hK hP 0 rfl rfl 3 (by decide) (ht _ k_S_25) (fun _ h9 => h9) rfl d_S_countOf_6 ?_
  refine lv_icmp_ge (tgt := 34) hx hb d_S_countOf_9 (by decide) (fun h9 => ?_) (fun h9 => ?_)
  · skip
    have h9 := jw_ge (by omega) (by omega) h9
    refine lv_iload_n hx hb d_S_countOf_34 rfl (lv_at hl 1 rfl) ?_
    exact W.iret (v := nI (jt_ct H0 a i)) hx hb hr (fun t9 ht9 _ => ⟨congrArg (fun z => Outcome.returned (some (Value.int z))) (by rw [show i = N0 by omega]), ht9⟩) (fun q h => by cases h) d_S_countOf_35
  · skip
    have h9 := jw_nge (by omega) (by omega) h9
    refine lv_aload_n hx hb d_S_countOf_12 rfl (lv_at hl 2 rfl) ?_
    refine va_get (D := D) (ci := 3) (v := .ref ao) (C := jn_S) (T := jf_S) (N := 6) hx hb ht ji_S hown hK hP 0 rfl rfl 1 (by decide) (ht _ k_S_18) (fun _ h9 => h9) rfl d_S_countOf_13 ?_
    refine lv_iload_n hx hb d_S_countOf_16 rfl (lv_at hl 0 rfl) ?_
    refine va_iald hx hb hK hP 1 0 rfl rfl (vp_in_nI (by omega) (by decide)) d_S_countOf_17 ?_
    rw [show (nI i).toNatClampNeg = i from nI_clamp (by omega)]
    rw [show so i = nI (jt_po (H0 i)) from hs i (by omega)]
    have hsi := (hhsm i (by omega)).2.2.2
    refine jw_rS (As := [.int (nI (jt_po (H0 i)))]) (rest := []) hx hb hml hown ht (m_O_siteOf l D (H0 i) (hhsm i (by omega))) (o_O_siteOf) k_S_43 rfl rfl ⟨Nat.le_of_ble_eq_true rfl, Nat.le_of_ble_eq_true rfl⟩ (hP.sub [] rfl) (hK.sub [] rfl) rfl hl.1 rfl (Nat.le_of_ble_eq_true rfl) d_S_countOf_18 ⟨Nat.zero_le _, Nat.zero_le _⟩ ?_
    refine lv_iload_n hx hb d_S_countOf_21 rfl (lv_at hl 3 rfl) ?_
    refine lv_icmp_ne (tgt := 28) hx hb d_S_countOf_22 (by decide) (fun h22 => ?_) (fun h22 => ?_)
    · skip
      have h22 := jw_ne (by omega) (by omega) h22
      refine lv_iinc (v := nI (i + 1)) (lv' := [(3, .int (nI (i + 1))), (2, .int (nI (jt_ct H0 a i))), (0, .ref z), (1, .int (nI a))]) hx hb d_S_countOf_28 hl (k := 0) rfl (show nI _ + Int32.ofInt 1 = nI _ from nI_add _ 1) (by decide) rfl (fun ls hl => ?_)
      refine lv_goto (tgt := 4) hx hb d_S_countOf_31 (by decide) ?_
      exact ih _ ls (by omega) ⟨i + 1, rfl, by omega, by rw [show jt_ct H0 a (i + 1) = jt_ct H0 a i by rw [jt_ct, if_neg h22]]; exact lv_sub hl [0, 1, 2, 3] rfl⟩
    · skip
      have h22 := jw_eq (by omega) (by omega) h22
      refine lv_iinc (v := nI (jt_ct H0 a i + 1)) (lv' := [(2, .int (nI (jt_ct H0 a i + 1))), (3, .int (nI i)), (0, .ref z), (1, .int (nI a))]) hx hb d_S_countOf_25 hl (k := 1) rfl (show nI _ + Int32.ofInt 1 = nI _ from nI_add _ 1) (by decide) rfl (fun ls hl => ?_)
      refine lv_iinc (v := nI (i + 1)) (lv' := [(3, .int (nI (i + 1))), (2, .int (nI (jt_ct H0 a i + 1))), (0, .ref z), (1, .int (nI a))]) hx hb d_S_countOf_28 hl (k := 1) rfl (show nI _ + Int32.ofInt 1 = nI _ from nI_add _ 1) (by decide) rfl (fun ls hl => ?_)
      refine lv_goto (tgt := 4) hx hb d_S_countOf_31 (by decide) ?_
      exact ih _ ls (by omega) ⟨i + 1, rfl, by omega, by rw [show jt_ct H0 a (i + 1) = jt_ct H0 a i + 1 by rw [jt_ct, if_pos h22]]; exact lv_sub hl [0, 1, 2, 3] rfl⟩

set_option maxHeartbeats 4000000 in
set_option maxRecDepth 100000 in
theorem m_S_movedFrom (l : Launch) (D : va_G) (z ao an th : Nat) (cI : ClassId) (v4 v5 : Int32) (so : Nat → Int32) (H0 : Nat → jt_O) (N0 : Nat) (hs : ∀ i, i < N0 → so i = nI (jt_po (H0 i))) (hH : jt_all H0 N0) (hN : N0 ≤ 60) (r : Nat) (o : jt_O) (hr0 : r ≤ N0) (ho : jt_ok (jt_le H0 r) o) (hw : jt_wf o) : Met l y_S_movedFrom w_S_movedFrom ({ frames := 4, cells := 0, slots := 0, locals := 87 }) (jw_P [.ref z, .int (nI r), .int (nI (jt_po o))] D jw_cl [(z, .inr (3, [.ref th, .ref ao, .ref an, .int (nI N0), .int v4, .int v5])), (ao, .inl (cI, 60, .inl so))] [(cI, .int)]) (k2_QcV (.int (nI (jt_po (jt_ms H0 r o (N0 - r)))))) 0 0 (fun _ => False) := by
  refine Met.ofW (cc := c_S_movedFrom) (maxL := 5) (ret := (some .int)) (by decide) rfl ?_
  intro pg0 en0 s m args below meth cd0 s₁ B hml hv
  obtain ⟨rfl, hP, hK⟩ := hv
  have hx := B.exec
  have hb := B.bytes
  have hr := B.returns
  have hts := atoms_spec (ws := w_S_movedFrom) B.pre
  have ht : ∀ w ∈ jw_tbl, w.before _ s = true := fun w h => hts w (List.mem_cons_of_mem _ h)
  have hown : s.vm.findClass jn_S = some m.cls := findClass_of_methodNamed B.named
  have hlocks := B.notSynchronized
  have hl := lv_entry ([.ref z, .int (nI r), .int (nI (jt_po o))]) (n := 5) (Nat.le_of_ble_eq_true rfl)
  rw [lg_entry_eq]
  generalize (lg_sl ([.ref z, .int (nI r), .int (nI (jt_po o))]) ++ List.replicate (5 - (lg_sl ([.ref z, .int (nI r), .int (nI (jt_po o))])).length) Slot.unset).toArray = ls at hl ⊢
  have hl : lv_has ls 5 [(0, .ref z), (1, .int (nI r)), (2, .int (nI (jt_po o)))] := hl
  have hhsm := jt_hsm hH hN
  have hmsm := jt_mssm hH hN ho hw
  refine lv_iload_n hx hb d_S_movedFrom_0 rfl (lv_at hl 2 rfl) ?_
  refine lv_istore_n (lv' := [(3, .int (nI (jt_po o))), (0, .ref z), (1, .int (nI r)), (2, .int (nI (jt_po o)))]) hx hb d_S_movedFrom_1 rfl hl (by decide) rfl (fun ls hl => ?_)
  refine lv_iload_n hx hb d_S_movedFrom_2 rfl (lv_at hl 2 rfl) ?_
  refine lv_istore (lv' := [(4, .int (nI r)), (3, .int (nI (jt_po o))), (0, .ref z), (1, .int (nI r)), (2, .int (nI (jt_po o)))]) hx hb d_S_movedFrom_3 hl (by decide) rfl (fun ls hl => ?_)
  refine jw_loopR (I := fun k ls => ∃ i, k = N0 - i ∧ r ≤ i ∧ i ≤ N0 ∧ lv_has ls 5 [(4, .int (nI i)), (3, .int (nI (jt_po (jt_ms H0 r o (i - r))))), (0, .ref z), (1, .int (nI r)), (2, .int (nI (jt_po o)))]) (N0 - r) ⟨r, rfl, Nat.le_refl _, hr0, by rw [Nat.sub_self]; exact hl⟩ (fun k ls hI ih => ?_)
  obtain ⟨i, hk, hi0, hi1, hl⟩ := hI
  refine lv_iload hx hb d_S_movedFrom_5 (lv_at hl 0 rfl) ?_
  refine lv_aload_n hx hb d_S_movedFrom_7 rfl (lv_at hl 2 rfl) ?_
  refine va_get (D := D) (ci := 3) (v := .int (nI N0)) (C := jn_S) (T := jf_S) (N := 6) hx hb ht ji_S hown hK hP 0 rfl rfl 3 (by decide) (ht _ k_S_25) (fun _ h9 => h9) rfl d_S_movedFrom_8 ?_
  refine lv_icmp_ge (tgt := 32) hx hb d_S_movedFrom_11 (by decide) (fun h11 => ?_) (fun h11 => ?_)
  · skip
    have h11 := jw_ge (by omega) (by omega) h11
    refine lv_iload_n hx hb d_S_movedFrom_32 rfl (lv_at hl 1 rfl) ?_
    exact W.iret (v := nI (jt_po (jt_ms H0 r o (i - r)))) hx hb hr (fun t9 ht9 _ => ⟨congrArg (fun z => Outcome.returned (some (Value.int z))) (by rw [show i = N0 by omega]), ht9⟩) (fun q h => by cases h) d_S_movedFrom_33
  · skip
    have h11 := jw_nge (by omega) (by omega) h11
    refine lv_iload_n hx hb d_S_movedFrom_14 rfl (lv_at hl 1 rfl) ?_
    refine lv_aload_n hx hb d_S_movedFrom_15 rfl (lv_at hl 2 rfl) ?_
    refine va_get (D := D) (ci := 3) (v := .ref ao) (C := jn_S) (T := jf_S) (N := 6) hx hb ht ji_S hown hK hP 0 rfl rfl 1 (by decide) (ht _ k_S_18) (fun _ h9 => h9) rfl d_S_movedFrom_16 ?_
    refine lv_iload hx hb d_S_movedFrom_19 (lv_at hl 0 rfl) ?_
    refine va_iald hx hb hK hP 1 0 rfl rfl (vp_in_nI (by omega) (by decide)) d_S_movedFrom_21 ?_
    rw [show (nI i).toNatClampNeg = i from nI_clamp (by omega)]
    rw [show so i = nI (jt_po (H0 i)) from hs i (by omega)]
    refine jw_rS (As := [.int (nI (jt_po (jt_ms H0 r o (i - r)))), .int (nI (jt_po (H0 i)))]) (rest := []) hx hb hml hown ht (m_O_moved l D (jt_ms H0 r o (i - r)) (H0 i) (hmsm _ (by omega)) (hhsm i (by omega))) (o_O_moved) k_S_48 rfl rfl ⟨Nat.le_of_ble_eq_true rfl, Nat.le_of_ble_eq_true rfl⟩ (hP.sub [] rfl) (hK.sub [] rfl) rfl hl.1 rfl (Nat.le_of_ble_eq_true rfl) d_S_movedFrom_22 ⟨Nat.zero_le _, Nat.zero_le _⟩ ?_
    refine lv_istore_n (lv' := [(3, .int (nI (jt_po (jt_mv (jt_ms H0 r o (i - r)) (H0 i))))), (4, .int (nI i)), (0, .ref z), (1, .int (nI r)), (2, .int (nI (jt_po o)))]) hx hb d_S_movedFrom_25 rfl hl (by decide) rfl (fun ls hl => ?_)
    refine lv_iinc (v := nI (i + 1)) (lv' := [(4, .int (nI (i + 1))), (3, .int (nI (jt_po (jt_mv (jt_ms H0 r o (i - r)) (H0 i))))), (0, .ref z), (1, .int (nI r)), (2, .int (nI (jt_po o)))]) hx hb d_S_movedFrom_26 hl (k := 1) rfl (show nI _ + Int32.ofInt 1 = nI _ from nI_add _ 1) (by decide) rfl (fun ls hl => ?_)
    refine lv_goto (tgt := 5) hx hb d_S_movedFrom_29 (by decide) ?_
    exact ih _ ls (by omega) ⟨i + 1, rfl, by omega, by omega, by rw [show i + 1 - r = (i - r) + 1 by omega, jt_ms, show r + (i - r) = i by omega]; exact hl⟩

set_option maxHeartbeats 4000000 in
set_option maxRecDepth 100000 in
theorem m_S_write (l : Launch) (D : va_G) (sz : Nat) (z ao an th : Nat) (cI : ClassId) (v4 v5 : Int32) (so sn : Nat → Int32) (H0 : Nat → jt_O) (N0 : Nat) (num : Nat → Nat) (hs : jt_rs so sn H0 N0 num) (hN : N0 < 60) (o : jt_O) (n : Nat) : Met l y_S_write w_S_write ({ frames := 1, cells := 0, slots := 0, locals := 20 }) (jw_C [.ref z, .int (nI (jt_po o)), .int (nI n)] D jw_cl [(z, .inr (3, [.ref th, .ref ao, .ref an, .int (nI N0), .int v4, .int v5])), (ao, .inl (cI, 60, .inl so)), (an, .inl (cI, 60, .inl sn))] [(cI, .int)] sz) (va_Qv (fun u : (Nat → Int32) × (Nat → Int32) => jt_rs u.1 u.2 (va_up H0 N0 o) (N0 + 1) (va_up num N0 n)) (jw_B D jw_cl (va_A [(z, .inr (3, [.ref th, .ref ao, .ref an, .int (nI N0), .int v4, .int v5])), (ao, .inl (cI, 60, .inl so)), (an, .inl (cI, 60, .inl sn))] sz) (fun u : (Nat → Int32) × (Nat → Int32) => [(z, .inr (3, [.ref th, .ref ao, .ref an, .int (nI (N0 + 1)), .int v4, .int v5])), (ao, .inl (cI, 60, .inl u.1)), (an, .inl (cI, 60, .inl u.2))])) (va_A [(z, .inr (3, [.ref th, .ref ao, .ref an, .int (nI N0), .int v4, .int v5])), (ao, .inl (cI, 60, .inl so)), (an, .inl (cI, 60, .inl sn))] sz)) 0 0 (va_A [(z, .inr (3, [.ref th, .ref ao, .ref an, .int (nI N0), .int v4, .int v5])), (ao, .inl (cI, 60, .inl so)), (an, .inl (cI, 60, .inl sn))] sz) := by
  refine Met.ofW (cc := c_S_write) (maxL := 3) (ret := none) (by decide) rfl ?_
  intro pg0 en0 s m args below meth cd0 s₁ B hml hv
  obtain ⟨rfl, hsz, hP, hK, hD0⟩ := hv
  have hx := B.exec
  have hb := B.bytes
  have hr := B.returns
  have hts := atoms_spec (ws := w_S_write) B.pre
  have ht : ∀ w ∈ jw_tbl, w.before _ s = true := fun w h => hts w (List.mem_cons_of_mem _ h)
  have hown : s.vm.findClass jn_S = some m.cls := findClass_of_methodNamed B.named
  have hlocks := B.notSynchronized
  subst hsz
  have hD := hD0.self (sz := s.heap.size)
  generalize hAe : va_A [(z, .inr (3, [.ref th, .ref ao, .ref an, .int (nI N0), .int v4, .int v5])), (ao, .inl (cI, 60, .inl so)), (an, .inl (cI, 60, .inl sn))] s.heap.size = A at hD ⊢
  have hA : ∀ q : Nat, s.heap.size ≤ q → A q := fun q h => by rw [← hAe]; exact Or.inr h
  have hS : va_S A s.heap s.heap [] := va_S.rf
  have hP : va_P D jw_cl [(z, .inr (3, [.ref th, .ref ao, .ref an, .int (nI N0), .int v4, .int v5])), (ao, .inl (cI, 60, .inl so)), (an, .inl (cI, 60, .inl sn))] s.heap := hP
  have hl := lv_entry ([.ref z, .int (nI (jt_po o)), .int (nI n)]) (n := 3) (Nat.le_of_ble_eq_true rfl)
  rw [lg_entry_eq]
  generalize (lg_sl ([.ref z, .int (nI (jt_po o)), .int (nI n)]) ++ List.replicate (3 - (lg_sl ([.ref z, .int (nI (jt_po o)), .int (nI n)])).length) Slot.unset).toArray = ls at hl ⊢
  have hl : lv_has ls 3 [(0, .ref z), (1, .int (nI (jt_po o))), (2, .int (nI n))] := hl
  refine lv_aload_n hx hb d_S_write_0 rfl (lv_at hl 0 rfl) ?_
  refine jw_rV (As := []) (rest := []) hx hb hml hown ht (m_S_isFull l D z ao an th _ _ _ (by omega)) (o_S_isFull) k_S_59 rfl rfl ⟨Nat.le_of_ble_eq_true rfl, Nat.le_of_ble_eq_true rfl⟩ (hP.sub [0] rfl) (hK.sub [] rfl) (va_recv (q0 := 0) (ci := 3) hK hP rfl rfl) rfl hl.1 rfl (Nat.le_of_ble_eq_true rfl) d_S_write_1 ⟨Nat.zero_le _, Nat.zero_le _⟩ ?_
  refine lv_if_eq (tgt := 8) hx hb d_S_write_4 (by decide) (fun h4 => ?_) (fun h4 => absurd (of_decide_eq_true (jw_b1 h4)) (by omega))
  refine lv_aload_n hx hb d_S_write_8 rfl (lv_at hl 0 rfl) ?_
  refine va_get (D := D) (ci := 3) (v := .ref ao) (C := jn_S) (T := jf_S) (N := 6) hx hb ht ji_S hown hK hP 0 rfl rfl 1 (by decide) (ht _ k_S_18) (fun _ h9 => h9) rfl d_S_write_9 ?_
  refine lv_aload_n hx hb d_S_write_12 rfl (lv_at hl 0 rfl) ?_
  refine va_get (D := D) (ci := 3) (v := .int (nI N0)) (C := jn_S) (T := jf_S) (N := 6) hx hb ht ji_S hown hK hP 0 rfl rfl 3 (by decide) (ht _ k_S_25) (fun _ h9 => h9) rfl d_S_write_13 ?_
  refine lv_iload_n hx hb d_S_write_16 rfl (lv_at hl 1 rfl) ?_
  refine va_iast hx hb hK hP hD hS 1 0 rfl rfl (vp_in_nI (by omega) (by decide)) d_S_write_17 (fun H locs hP hD hS => ?_)
  rw [show (nI N0).toNatClampNeg = N0 from nI_clamp (by omega)] at hP hD
  have hP : va_P D jw_cl [(z, .inr (3, [.ref th, .ref ao, .ref an, .int (nI N0), .int v4, .int v5])), (ao, .inl (cI, 60, .inl (upd so N0 (nI (jt_po o))))), (an, .inl (cI, 60, .inl sn))] H := hP
  have hD : va_D A [(z, .inr (3, [.ref th, .ref ao, .ref an, .int (nI N0), .int v4, .int v5])), (ao, .inl (cI, 60, .inl (upd so N0 (nI (jt_po o))))), (an, .inl (cI, 60, .inl sn))] := hD
  refine lv_aload_n hx hb d_S_write_18 rfl (lv_at hl 0 rfl) ?_
  refine va_get (D := D) (ci := 3) (v := .ref an) (C := jn_S) (T := jf_S) (N := 6) hx hb ht ji_S hown hK hP 0 rfl rfl 2 (by decide) (ht _ k_S_22) (fun _ h9 => h9) rfl d_S_write_19 ?_
  refine lv_aload_n hx hb d_S_write_22 rfl (lv_at hl 0 rfl) ?_
  refine va_get (D := D) (ci := 3) (v := .int (nI N0)) (C := jn_S) (T := jf_S) (N := 6) hx hb ht ji_S hown hK hP 0 rfl rfl 3 (by decide) (ht _ k_S_25) (fun _ h9 => h9) rfl d_S_write_23 ?_
  refine lv_iload_n hx hb d_S_write_26 rfl (lv_at hl 2 rfl) ?_
  refine va_iast hx hb hK hP hD hS 2 0 rfl rfl (vp_in_nI (by omega) (by decide)) d_S_write_27 (fun H locs hP hD hS => ?_)
  rw [show (nI N0).toNatClampNeg = N0 from nI_clamp (by omega)] at hP hD
  have hP : va_P D jw_cl [(z, .inr (3, [.ref th, .ref ao, .ref an, .int (nI N0), .int v4, .int v5])), (ao, .inl (cI, 60, .inl (upd so N0 (nI (jt_po o))))), (an, .inl (cI, 60, .inl (upd sn N0 (nI n))))] H := hP
  have hD : va_D A [(z, .inr (3, [.ref th, .ref ao, .ref an, .int (nI N0), .int v4, .int v5])), (ao, .inl (cI, 60, .inl (upd so N0 (nI (jt_po o))))), (an, .inl (cI, 60, .inl (upd sn N0 (nI n))))] := hD
  refine lv_aload_n hx hb d_S_write_28 rfl (lv_at hl 0 rfl) ?_
  refine lv_dup hx hb d_S_write_29 rfl ?_
  refine va_get (D := D) (ci := 3) (v := .int (nI N0)) (C := jn_S) (T := jf_S) (N := 6) hx hb ht ji_S hown hK hP 0 rfl rfl 3 (by decide) (ht _ k_S_25) (fun _ h9 => h9) rfl d_S_write_30 ?_
  refine lv_iconst (v := nI 1) hx hb d_S_write_33 (by decide) ?_
  refine lv_iadd hx hb d_S_write_34 ?_
  refine lv_topi (fun v1 ev1 => ?_)
  obtain rfl : v1 = nI (N0 + 1) := ev1.trans (nI_add _ _)
  refine va_put (D := D) (ci := 3) (v := .int (nI (N0 + 1))) (ty := .int) (C := jn_S) (T := jf_S) (N := 6) hx hb ht ji_S jy_S jo_S jm_S hown hK hP hD hS 0 rfl rfl 3 (by decide) (ht _ k_S_25) (fun _ h9 => h9) rfl (by decide +kernel) rfl rfl (Nat.le_of_ble_eq_true rfl) d_S_write_35 (fun H locs hP hD hS => ?_)
  have hP : va_P D jw_cl [(z, .inr (3, [.ref th, .ref ao, .ref an, .int (nI (N0 + 1)), .int v4, .int v5])), (ao, .inl (cI, 60, .inl (upd so N0 (nI (jt_po o))))), (an, .inl (cI, 60, .inl (upd sn N0 (nI n))))] H := hP
  have hD : va_D A [(z, .inr (3, [.ref th, .ref ao, .ref an, .int (nI (N0 + 1)), .int v4, .int v5])), (ao, .inl (cI, 60, .inl (upd so N0 (nI (jt_po o))))), (an, .inl (cI, 60, .inl (upd sn N0 (nI n))))] := hD
  exact W.vret hx hb hr (fun t9 ht9 hW9 => ⟨⟨(upd so N0 (nI (jt_po o)), upd sn N0 (nI n)), rfl, jt_rs_up hs, by rw [ht9]; exact hP, hD⟩, hS.F ht9⟩) hS.2.2 d_S_write_38

set_option maxHeartbeats 4000000 in
set_option maxRecDepth 100000 in
theorem m_S_enter_0 (l : Launch) (D : va_G) (sz : Nat) (z ao an th ta : Nat) (cI : ClassId) (so sn tf : Nat → Int32) (H0 : Nat → jt_O) (N0 : Nat) (num : Nat → Nat) (hs : jt_rs so sn H0 N0 num) (hN6 : N0 < 60) (o : jt_O) (n : Nat) (up0 tr0 : Nat) (htr : tr0 = 0) (ht0 : jt_rt tf (jt_tx H0 N0)) (hok : jt_ok (jt_le H0 N0) o) (hw : jt_wf o) : Met l y_S_enter w_S_enter ({ frames := 3, cells := 0, slots := 0, locals := 65 }) (jw_C [.ref z, .int (nI (jt_po o)), .int (nI n)] D jw_cl [(z, .inr (3, [.ref th, .ref ao, .ref an, .int (nI N0), .int (nI up0), .int (nI tr0)])), (ao, .inl (cI, 60, .inl so)), (an, .inl (cI, 60, .inl sn)), (th, .inr (4, [.ref ta, .int (nI ((jt_tx H0 N0).2))])), (ta, .inl (cI, 68, .inl tf))] [(cI, .int)] sz) (va_Qi (fun (r : Int32) (u : (Nat → Int32) × (Nat → Int32) × (Nat → Int32)) => r = nI 1 ∧ jt_rs u.1 u.2.1 (va_up H0 N0 o) (N0 + 1) (va_up num N0 n) ∧ jt_rt u.2.2 (jt_tx (va_up H0 N0 o) (N0 + 1))) (jw_B D jw_cl (va_A [(z, .inr (3, [.ref th, .ref ao, .ref an, .int (nI N0), .int (nI up0), .int (nI tr0)])), (ao, .inl (cI, 60, .inl so)), (an, .inl (cI, 60, .inl sn)), (th, .inr (4, [.ref ta, .int (nI ((jt_tx H0 N0).2))])), (ta, .inl (cI, 68, .inl tf))] sz) (fun u : (Nat → Int32) × (Nat → Int32) × (Nat → Int32) => [(z, .inr (3, [.ref th, .ref ao, .ref an, .int (nI (N0 + 1)), .int (nI up0), .int (nI tr0)])), (ao, .inl (cI, 60, .inl u.1)), (an, .inl (cI, 60, .inl u.2.1)), (th, .inr (4, [.ref ta, .int (nI ((jt_tx (va_up H0 N0 o) (N0 + 1)).2))])), (ta, .inl (cI, 68, .inl u.2.2))])) (va_A [(z, .inr (3, [.ref th, .ref ao, .ref an, .int (nI N0), .int (nI up0), .int (nI tr0)])), (ao, .inl (cI, 60, .inl so)), (an, .inl (cI, 60, .inl sn)), (th, .inr (4, [.ref ta, .int (nI ((jt_tx H0 N0).2))])), (ta, .inl (cI, 68, .inl tf))] sz)) 0 0 (va_A [(z, .inr (3, [.ref th, .ref ao, .ref an, .int (nI N0), .int (nI up0), .int (nI tr0)])), (ao, .inl (cI, 60, .inl so)), (an, .inl (cI, 60, .inl sn)), (th, .inr (4, [.ref ta, .int (nI ((jt_tx H0 N0).2))])), (ta, .inl (cI, 68, .inl tf))] sz) := by
  refine Met.ofW (cc := c_S_enter) (maxL := 3) (ret := (some .boolean)) (by decide) rfl ?_
  intro pg0 en0 s m args below meth cd0 s₁ B hml hv
  obtain ⟨rfl, hsz, hP, hK, hD0⟩ := hv
  have hx := B.exec
  have hb := B.bytes
  have hr := B.returns
  have hts := atoms_spec (ws := w_S_enter) B.pre
  have ht : ∀ w ∈ jw_tbl, w.before _ s = true := fun w h => hts w (List.mem_cons_of_mem _ h)
  have hown : s.vm.findClass jn_S = some m.cls := findClass_of_methodNamed B.named
  have hlocks := B.notSynchronized
  subst hsz
  have hD := hD0.self (sz := s.heap.size)
  generalize hAe : va_A [(z, .inr (3, [.ref th, .ref ao, .ref an, .int (nI N0), .int (nI up0), .int (nI tr0)])), (ao, .inl (cI, 60, .inl so)), (an, .inl (cI, 60, .inl sn)), (th, .inr (4, [.ref ta, .int (nI ((jt_tx H0 N0).2))])), (ta, .inl (cI, 68, .inl tf))] s.heap.size = A at hD ⊢
  have hA : ∀ q : Nat, s.heap.size ≤ q → A q := fun q h => by rw [← hAe]; exact Or.inr h
  have hS : va_S A s.heap s.heap [] := va_S.rf
  have hP : va_P D jw_cl [(z, .inr (3, [.ref th, .ref ao, .ref an, .int (nI N0), .int (nI up0), .int (nI tr0)])), (ao, .inl (cI, 60, .inl so)), (an, .inl (cI, 60, .inl sn)), (th, .inr (4, [.ref ta, .int (nI ((jt_tx H0 N0).2))])), (ta, .inl (cI, 68, .inl tf))] s.heap := hP
  have hl := lv_entry ([.ref z, .int (nI (jt_po o)), .int (nI n)]) (n := 3) (Nat.le_of_ble_eq_true rfl)
  rw [lg_entry_eq]
  generalize (lg_sl ([.ref z, .int (nI (jt_po o)), .int (nI n)]) ++ List.replicate (3 - (lg_sl ([.ref z, .int (nI (jt_po o)), .int (nI n)])).length) Slot.unset).toArray = ls at hl ⊢
  have hl : lv_has ls 3 [(0, .ref z), (1, .int (nI (jt_po o))), (2, .int (nI n))] := hl
  have htr9 := htr
  refine lv_aload_n hx hb d_S_enter_0 rfl (lv_at hl 0 rfl) ?_
  refine va_get (D := D) (ci := 3) (v := .int (nI tr0)) (C := jn_S) (T := jf_S) (N := 6) hx hb ht ji_S hown hK hP 0 rfl rfl 5 (by decide) (ht _ k_S_33) (fun _ h9 => h9) rfl d_S_enter_1 ?_
  refine lv_iconst (v := nI 1) hx hb d_S_enter_4 (by decide) ?_
  refine lv_icmp_ne (tgt := 14) hx hb d_S_enter_5 (by decide) (fun h5 => ?_) (fun h5 => absurd (jw_eq (by omega) (by omega) h5) (by omega))
  have h5 := jw_ne (by omega) (by omega) h5
  refine lv_aload_n hx hb d_S_enter_14 rfl (lv_at hl 0 rfl) ?_
  refine lv_iload_n hx hb d_S_enter_15 rfl (lv_at hl 1 rfl) ?_
  refine lv_iload_n hx hb d_S_enter_16 rfl (lv_at hl 2 rfl) ?_
  refine jw_jv (ws := [(z, .inr (3, [.ref th, .ref ao, .ref an, .int (nI N0), .int (nI up0), .int (nI tr0)])), (ao, .inl (cI, 60, .inl so)), (an, .inl (cI, 60, .inl sn)), (th, .inr (4, [.ref ta, .int (nI ((jt_tx H0 N0).2))])), (ta, .inl (cI, 68, .inl tf))]) (wc := [(z, .inr (3, [.ref th, .ref ao, .ref an, .int (nI N0), .int (nI up0), .int (nI tr0)])), (ao, .inl (cI, 60, .inl so)), (an, .inl (cI, 60, .inl sn))]) (wr := [(th, .inr (4, [.ref ta, .int (nI ((jt_tx H0 N0).2))])), (ta, .inl (cI, 68, .inl tf))]) (jw_uV (As := [.int (nI (jt_po o)), .int (nI n)]) (rest := []) hx hb hml hown ht (m_S_write l D _ z ao an th cI _ _ so sn H0 N0 num hs hN6 o n) (o_S_write) k_S_55 rfl rfl ⟨Nat.le_of_ble_eq_true rfl, Nat.le_of_ble_eq_true rfl⟩ (hP.sub [0, 1, 2] rfl) (hK.sub [0] rfl) (hD.sub [0, 1, 2] (by decide) rfl) (va_recv (q0 := 0) (ci := 3) hK hP rfl rfl) rfl hl.1 rfl (Nat.le_of_ble_eq_true rfl) d_S_enter_17 ⟨Nat.zero_le _, Nat.zero_le _⟩) hP hD hS hA [0, 1, 2] [3, 4] rfl rfl (by decide) (by decide) (fun u1 H locs hu1 hP hD hS => ?_)
  have hP : va_P D jw_cl [(th, .inr (4, [.ref ta, .int (nI ((jt_tx H0 N0).2))])), (ta, .inl (cI, 68, .inl tf)), (z, .inr (3, [.ref th, .ref ao, .ref an, .int (nI (N0 + 1)), .int (nI up0), .int (nI tr0)])), (ao, .inl (cI, 60, .inl u1.1)), (an, .inl (cI, 60, .inl u1.2))] H := hP
  have hD : va_D A [(th, .inr (4, [.ref ta, .int (nI ((jt_tx H0 N0).2))])), (ta, .inl (cI, 68, .inl tf)), (z, .inr (3, [.ref th, .ref ao, .ref an, .int (nI (N0 + 1)), .int (nI up0), .int (nI tr0)])), (ao, .inl (cI, 60, .inl u1.1)), (an, .inl (cI, 60, .inl u1.2))] := hD
  refine lv_aload_n hx hb d_S_enter_20 rfl (lv_at hl 0 rfl) ?_
  refine va_get (D := D) (ci := 3) (v := .int (nI tr0)) (C := jn_S) (T := jf_S) (N := 6) hx hb ht ji_S hown hK hP 2 rfl rfl 5 (by decide) (ht _ k_S_33) (fun _ h9 => h9) rfl d_S_enter_21 ?_
  refine lv_iconst (v := nI 2) hx hb d_S_enter_24 (by decide) ?_
  refine lv_icmp_ne (tgt := 34) hx hb d_S_enter_25 (by decide) (fun h25 => ?_) (fun h25 => absurd (jw_eq (by omega) (by omega) h25) (by omega))
  have h25 := jw_ne (by omega) (by omega) h25
  refine lv_aload_n hx hb d_S_enter_34 rfl (lv_at hl 0 rfl) ?_
  refine va_get (D := D) (ci := 3) (v := .ref th) (C := jn_S) (T := jf_S) (N := 6) hx hb ht ji_S hown hK hP 2 rfl rfl 0 (by decide) (ht _ k_S_12) (fun _ h9 => h9) rfl d_S_enter_35 ?_
  refine lv_iload_n hx hb d_S_enter_38 rfl (lv_at hl 1 rfl) ?_
  refine jw_ji (ws := [(th, .inr (4, [.ref ta, .int (nI ((jt_tx H0 N0).2))])), (ta, .inl (cI, 68, .inl tf)), (z, .inr (3, [.ref th, .ref ao, .ref an, .int (nI (N0 + 1)), .int (nI up0), .int (nI tr0)])), (ao, .inl (cI, 60, .inl u1.1)), (an, .inl (cI, 60, .inl u1.2))]) (wc := [(th, .inr (4, [.ref ta, .int (nI ((jt_tx H0 N0).2))])), (ta, .inl (cI, 68, .inl tf))]) (wr := [(z, .inr (3, [.ref th, .ref ao, .ref an, .int (nI (N0 + 1)), .int (nI up0), .int (nI tr0)])), (ao, .inl (cI, 60, .inl u1.1)), (an, .inl (cI, 60, .inl u1.2))]) (jw_uV (As := [.int (nI (jt_po o))]) (rest := []) hx hb hml hown ht (m_T_perform l D _ th ta cI tf (jt_tx H0 N0) ht0 (by have : (jt_tx H0 N0).2 ≤ N0 := jt_le_le H0 N0; omega) o (jt_sm_of hok hw (by have := jt_le_le H0 N0; omega)) hok (fun _ => by have : (jt_tx H0 N0).2 ≤ N0 := jt_le_le H0 N0; omega)) (o_T_perform) k_S_39 rfl rfl ⟨Nat.le_of_ble_eq_true rfl, Nat.le_of_ble_eq_true rfl⟩ (hP.sub [0, 1] rfl) (hK.sub [0] rfl) (hD.sub [0, 1] (by decide) rfl) (va_recv (q0 := 0) (ci := 4) hK hP rfl rfl) rfl hl.1 rfl (Nat.le_of_ble_eq_true rfl) d_S_enter_39 ⟨Nat.zero_le _, Nat.zero_le _⟩) hP hD hS hA [0, 1] [2, 3, 4] rfl rfl (by decide) (by decide) (fun r4 u3 H locs hu3 hP hD hS => ?_)
  have hP : va_P D jw_cl [(z, .inr (3, [.ref th, .ref ao, .ref an, .int (nI (N0 + 1)), .int (nI up0), .int (nI tr0)])), (ao, .inl (cI, 60, .inl u1.1)), (an, .inl (cI, 60, .inl u1.2)), (th, .inr (4, [.ref ta, .int (nI ((jt_pf (jt_tx H0 N0) o).2))])), (ta, .inl (cI, 68, .inl u3))] H := hP
  have hD : va_D A [(z, .inr (3, [.ref th, .ref ao, .ref an, .int (nI (N0 + 1)), .int (nI up0), .int (nI tr0)])), (ao, .inl (cI, 60, .inl u1.1)), (an, .inl (cI, 60, .inl u1.2)), (th, .inr (4, [.ref ta, .int (nI ((jt_pf (jt_tx H0 N0) o).2))])), (ta, .inl (cI, 68, .inl u3))] := hD
  refine lv_pop hx hb d_S_enter_42 rfl ?_
  refine lv_iconst (v := nI 1) hx hb d_S_enter_43 (by decide) ?_
  have hP := hP.sub (ws' := [(z, .inr (3, [.ref th, .ref ao, .ref an, .int (nI (N0 + 1)), .int (nI up0), .int (nI tr0)])), (ao, .inl (cI, 60, .inl u1.1)), (an, .inl (cI, 60, .inl u1.2)), (th, .inr (4, [.ref ta, .int (nI ((jt_pf (jt_tx H0 N0) o).2))])), (ta, .inl (cI, 68, .inl u3))]) [0, 1, 2, 3, 4] rfl
  have hD := hD.sub (ws' := [(z, .inr (3, [.ref th, .ref ao, .ref an, .int (nI (N0 + 1)), .int (nI up0), .int (nI tr0)])), (ao, .inl (cI, 60, .inl u1.1)), (an, .inl (cI, 60, .inl u1.2)), (th, .inr (4, [.ref ta, .int (nI ((jt_pf (jt_tx H0 N0) o).2))])), (ta, .inl (cI, 68, .inl u3))]) [0, 1, 2, 3, 4] (by decide) rfl
  rw [show jt_pf (jt_tx H0 N0) o = jt_tx (va_up H0 N0 o) (N0 + 1) from jt_tx_up.symm] at hP hD hu3
  exact W.zret (v := nI 1) hx hb hr (by decide) (fun t9 ht9 hW9 => ⟨⟨nI 1, (u1.1, u1.2, u3), rfl, ⟨rfl, hu1, hu3.2⟩, by rw [ht9]; exact hP, hD⟩, hS.F ht9⟩) hS.2.2 d_S_enter_44

set_option maxHeartbeats 4000000 in
set_option maxRecDepth 100000 in
theorem m_S_enter_1 (l : Launch) (D : va_G) (sz : Nat) (z ao an th ta : Nat) (cI : ClassId) (so sn tf : Nat → Int32) (H0 : Nat → jt_O) (N0 : Nat) (num : Nat → Nat) (t : jt_T) (hs : jt_rs so sn H0 N0 num) (hN6 : N0 < 60) (o : jt_O) (n : Nat) (up0 tr0 : Nat) (htr : tr0 = 1) : Met l y_S_enter w_S_enter ({ frames := 1, cells := 0, slots := 0, locals := 20 }) (jw_C [.ref z, .int (nI (jt_po o)), .int (nI n)] D jw_cl [(z, .inr (3, [.ref th, .ref ao, .ref an, .int (nI N0), .int (nI up0), .int (nI tr0)])), (ao, .inl (cI, 60, .inl so)), (an, .inl (cI, 60, .inl sn)), (th, .inr (4, [.ref ta, .int (nI t.2)])), (ta, .inl (cI, 68, .inl tf))] [(cI, .int)] sz) (va_Qi (fun (r : Int32) (_ : Unit) => r = nI 0 ∧ True) (jw_B D jw_cl (va_A [(z, .inr (3, [.ref th, .ref ao, .ref an, .int (nI N0), .int (nI up0), .int (nI tr0)])), (ao, .inl (cI, 60, .inl so)), (an, .inl (cI, 60, .inl sn)), (th, .inr (4, [.ref ta, .int (nI t.2)])), (ta, .inl (cI, 68, .inl tf))] sz) (fun _ : Unit => [(z, .inr (3, [.ref th, .ref ao, .ref an, .int (nI N0), .int (nI 0), .int (nI tr0)])), (ao, .inl (cI, 60, .inl so)), (an, .inl (cI, 60, .inl sn)), (th, .inr (4, [.ref ta, .int (nI t.2)])), (ta, .inl (cI, 68, .inl tf))])) (va_A [(z, .inr (3, [.ref th, .ref ao, .ref an, .int (nI N0), .int (nI up0), .int (nI tr0)])), (ao, .inl (cI, 60, .inl so)), (an, .inl (cI, 60, .inl sn)), (th, .inr (4, [.ref ta, .int (nI t.2)])), (ta, .inl (cI, 68, .inl tf))] sz)) 0 0 (va_A [(z, .inr (3, [.ref th, .ref ao, .ref an, .int (nI N0), .int (nI up0), .int (nI tr0)])), (ao, .inl (cI, 60, .inl so)), (an, .inl (cI, 60, .inl sn)), (th, .inr (4, [.ref ta, .int (nI t.2)])), (ta, .inl (cI, 68, .inl tf))] sz) := by
  refine Met.ofW (cc := c_S_enter) (maxL := 3) (ret := (some .boolean)) (by decide) rfl ?_
  intro pg0 en0 s m args below meth cd0 s₁ B hml hv
  obtain ⟨rfl, hsz, hP, hK, hD0⟩ := hv
  have hx := B.exec
  have hb := B.bytes
  have hr := B.returns
  have hts := atoms_spec (ws := w_S_enter) B.pre
  have ht : ∀ w ∈ jw_tbl, w.before _ s = true := fun w h => hts w (List.mem_cons_of_mem _ h)
  have hown : s.vm.findClass jn_S = some m.cls := findClass_of_methodNamed B.named
  have hlocks := B.notSynchronized
  subst hsz
  have hD := hD0.self (sz := s.heap.size)
  generalize hAe : va_A [(z, .inr (3, [.ref th, .ref ao, .ref an, .int (nI N0), .int (nI up0), .int (nI tr0)])), (ao, .inl (cI, 60, .inl so)), (an, .inl (cI, 60, .inl sn)), (th, .inr (4, [.ref ta, .int (nI t.2)])), (ta, .inl (cI, 68, .inl tf))] s.heap.size = A at hD ⊢
  have hA : ∀ q : Nat, s.heap.size ≤ q → A q := fun q h => by rw [← hAe]; exact Or.inr h
  have hS : va_S A s.heap s.heap [] := va_S.rf
  have hP : va_P D jw_cl [(z, .inr (3, [.ref th, .ref ao, .ref an, .int (nI N0), .int (nI up0), .int (nI tr0)])), (ao, .inl (cI, 60, .inl so)), (an, .inl (cI, 60, .inl sn)), (th, .inr (4, [.ref ta, .int (nI t.2)])), (ta, .inl (cI, 68, .inl tf))] s.heap := hP
  have hl := lv_entry ([.ref z, .int (nI (jt_po o)), .int (nI n)]) (n := 3) (Nat.le_of_ble_eq_true rfl)
  rw [lg_entry_eq]
  generalize (lg_sl ([.ref z, .int (nI (jt_po o)), .int (nI n)]) ++ List.replicate (3 - (lg_sl ([.ref z, .int (nI (jt_po o)), .int (nI n)])).length) Slot.unset).toArray = ls at hl ⊢
  have hl : lv_has ls 3 [(0, .ref z), (1, .int (nI (jt_po o))), (2, .int (nI n))] := hl
  have htr9 := htr
  refine lv_aload_n hx hb d_S_enter_0 rfl (lv_at hl 0 rfl) ?_
  refine va_get (D := D) (ci := 3) (v := .int (nI tr0)) (C := jn_S) (T := jf_S) (N := 6) hx hb ht ji_S hown hK hP 0 rfl rfl 5 (by decide) (ht _ k_S_33) (fun _ h9 => h9) rfl d_S_enter_1 ?_
  refine lv_iconst (v := nI 1) hx hb d_S_enter_4 (by decide) ?_
  refine lv_icmp_ne (tgt := 14) hx hb d_S_enter_5 (by decide) (fun h5 => absurd (jw_ne (by omega) (by omega) h5) (by omega)) (fun h5 => ?_)
  have h5 := jw_eq (by omega) (by omega) h5
  refine lv_aload_n hx hb d_S_enter_8 rfl (lv_at hl 0 rfl) ?_
  refine jw_jv (ws := [(z, .inr (3, [.ref th, .ref ao, .ref an, .int (nI N0), .int (nI up0), .int (nI tr0)])), (ao, .inl (cI, 60, .inl so)), (an, .inl (cI, 60, .inl sn)), (th, .inr (4, [.ref ta, .int (nI t.2)])), (ta, .inl (cI, 68, .inl tf))]) (wc := [(z, .inr (3, [.ref th, .ref ao, .ref an, .int (nI N0), .int (nI up0), .int (nI tr0)]))]) (wr := [(ao, .inl (cI, 60, .inl so)), (an, .inl (cI, 60, .inl sn)), (th, .inr (4, [.ref ta, .int (nI t.2)])), (ta, .inl (cI, 68, .inl tf))]) (jw_uV (As := []) (rest := []) hx hb hml hown ht (m_S_goDown l D _ z ao an th _ _ _) (o_S_goDown) k_S_52 rfl rfl ⟨Nat.le_of_ble_eq_true rfl, Nat.le_of_ble_eq_true rfl⟩ (hP.sub [0] rfl) (hK.sub [] rfl) (hD.sub [0] (by decide) rfl) (va_recv (q0 := 0) (ci := 3) hK hP rfl rfl) rfl hl.1 rfl (Nat.le_of_ble_eq_true rfl) d_S_enter_9 ⟨Nat.zero_le _, Nat.zero_le _⟩) hP hD hS hA [0] [1, 2, 3, 4] rfl rfl (by decide) (by decide) (fun u1 H locs hu1 hP hD hS => ?_)
  have hP : va_P D jw_cl [(ao, .inl (cI, 60, .inl so)), (an, .inl (cI, 60, .inl sn)), (th, .inr (4, [.ref ta, .int (nI t.2)])), (ta, .inl (cI, 68, .inl tf)), (z, .inr (3, [.ref th, .ref ao, .ref an, .int (nI N0), .int (nI 0), .int (nI tr0)]))] H := hP
  have hD : va_D A [(ao, .inl (cI, 60, .inl so)), (an, .inl (cI, 60, .inl sn)), (th, .inr (4, [.ref ta, .int (nI t.2)])), (ta, .inl (cI, 68, .inl tf)), (z, .inr (3, [.ref th, .ref ao, .ref an, .int (nI N0), .int (nI 0), .int (nI tr0)]))] := hD
  refine lv_iconst (v := nI 0) hx hb d_S_enter_12 (by decide) ?_
  have hP := hP.sub (ws' := [(z, .inr (3, [.ref th, .ref ao, .ref an, .int (nI N0), .int (nI 0), .int (nI tr0)])), (ao, .inl (cI, 60, .inl so)), (an, .inl (cI, 60, .inl sn)), (th, .inr (4, [.ref ta, .int (nI t.2)])), (ta, .inl (cI, 68, .inl tf))]) [4, 0, 1, 2, 3] rfl
  have hD := hD.sub (ws' := [(z, .inr (3, [.ref th, .ref ao, .ref an, .int (nI N0), .int (nI 0), .int (nI tr0)])), (ao, .inl (cI, 60, .inl so)), (an, .inl (cI, 60, .inl sn)), (th, .inr (4, [.ref ta, .int (nI t.2)])), (ta, .inl (cI, 68, .inl tf))]) [4, 0, 1, 2, 3] (by decide) rfl
  exact W.zret (v := nI 0) hx hb hr (by decide) (fun t9 ht9 hW9 => ⟨⟨nI 0, (), rfl, ⟨rfl, trivial⟩, by rw [ht9]; exact hP, hD⟩, hS.F ht9⟩) hS.2.2 d_S_enter_13

set_option maxHeartbeats 4000000 in
set_option maxRecDepth 100000 in
theorem m_S_enter_2 (l : Launch) (D : va_G) (sz : Nat) (z ao an th ta : Nat) (cI : ClassId) (so sn tf : Nat → Int32) (H0 : Nat → jt_O) (N0 : Nat) (num : Nat → Nat) (t : jt_T) (hs : jt_rs so sn H0 N0 num) (hN6 : N0 < 60) (o : jt_O) (n : Nat) (up0 tr0 : Nat) (htr : tr0 = 2) : Met l y_S_enter w_S_enter ({ frames := 2, cells := 0, slots := 0, locals := 42 }) (jw_C [.ref z, .int (nI (jt_po o)), .int (nI n)] D jw_cl [(z, .inr (3, [.ref th, .ref ao, .ref an, .int (nI N0), .int (nI up0), .int (nI tr0)])), (ao, .inl (cI, 60, .inl so)), (an, .inl (cI, 60, .inl sn)), (th, .inr (4, [.ref ta, .int (nI t.2)])), (ta, .inl (cI, 68, .inl tf))] [(cI, .int)] sz) (va_Qi (fun (r : Int32) (u : (Nat → Int32) × (Nat → Int32)) => r = nI 0 ∧ jt_rs u.1 u.2 (va_up H0 N0 o) (N0 + 1) (va_up num N0 n)) (jw_B D jw_cl (va_A [(z, .inr (3, [.ref th, .ref ao, .ref an, .int (nI N0), .int (nI up0), .int (nI tr0)])), (ao, .inl (cI, 60, .inl so)), (an, .inl (cI, 60, .inl sn)), (th, .inr (4, [.ref ta, .int (nI t.2)])), (ta, .inl (cI, 68, .inl tf))] sz) (fun u : (Nat → Int32) × (Nat → Int32) => [(z, .inr (3, [.ref th, .ref ao, .ref an, .int (nI (N0 + 1)), .int (nI 0), .int (nI tr0)])), (ao, .inl (cI, 60, .inl u.1)), (an, .inl (cI, 60, .inl u.2)), (th, .inr (4, [.ref ta, .int (nI t.2)])), (ta, .inl (cI, 68, .inl tf))])) (va_A [(z, .inr (3, [.ref th, .ref ao, .ref an, .int (nI N0), .int (nI up0), .int (nI tr0)])), (ao, .inl (cI, 60, .inl so)), (an, .inl (cI, 60, .inl sn)), (th, .inr (4, [.ref ta, .int (nI t.2)])), (ta, .inl (cI, 68, .inl tf))] sz)) 0 0 (va_A [(z, .inr (3, [.ref th, .ref ao, .ref an, .int (nI N0), .int (nI up0), .int (nI tr0)])), (ao, .inl (cI, 60, .inl so)), (an, .inl (cI, 60, .inl sn)), (th, .inr (4, [.ref ta, .int (nI t.2)])), (ta, .inl (cI, 68, .inl tf))] sz) := by
  refine Met.ofW (cc := c_S_enter) (maxL := 3) (ret := (some .boolean)) (by decide) rfl ?_
  intro pg0 en0 s m args below meth cd0 s₁ B hml hv
  obtain ⟨rfl, hsz, hP, hK, hD0⟩ := hv
  have hx := B.exec
  have hb := B.bytes
  have hr := B.returns
  have hts := atoms_spec (ws := w_S_enter) B.pre
  have ht : ∀ w ∈ jw_tbl, w.before _ s = true := fun w h => hts w (List.mem_cons_of_mem _ h)
  have hown : s.vm.findClass jn_S = some m.cls := findClass_of_methodNamed B.named
  have hlocks := B.notSynchronized
  subst hsz
  have hD := hD0.self (sz := s.heap.size)
  generalize hAe : va_A [(z, .inr (3, [.ref th, .ref ao, .ref an, .int (nI N0), .int (nI up0), .int (nI tr0)])), (ao, .inl (cI, 60, .inl so)), (an, .inl (cI, 60, .inl sn)), (th, .inr (4, [.ref ta, .int (nI t.2)])), (ta, .inl (cI, 68, .inl tf))] s.heap.size = A at hD ⊢
  have hA : ∀ q : Nat, s.heap.size ≤ q → A q := fun q h => by rw [← hAe]; exact Or.inr h
  have hS : va_S A s.heap s.heap [] := va_S.rf
  have hP : va_P D jw_cl [(z, .inr (3, [.ref th, .ref ao, .ref an, .int (nI N0), .int (nI up0), .int (nI tr0)])), (ao, .inl (cI, 60, .inl so)), (an, .inl (cI, 60, .inl sn)), (th, .inr (4, [.ref ta, .int (nI t.2)])), (ta, .inl (cI, 68, .inl tf))] s.heap := hP
  have hl := lv_entry ([.ref z, .int (nI (jt_po o)), .int (nI n)]) (n := 3) (Nat.le_of_ble_eq_true rfl)
  rw [lg_entry_eq]
  generalize (lg_sl ([.ref z, .int (nI (jt_po o)), .int (nI n)]) ++ List.replicate (3 - (lg_sl ([.ref z, .int (nI (jt_po o)), .int (nI n)])).length) Slot.unset).toArray = ls at hl ⊢
  have hl : lv_has ls 3 [(0, .ref z), (1, .int (nI (jt_po o))), (2, .int (nI n))] := hl
  have htr9 := htr
  refine lv_aload_n hx hb d_S_enter_0 rfl (lv_at hl 0 rfl) ?_
  refine va_get (D := D) (ci := 3) (v := .int (nI tr0)) (C := jn_S) (T := jf_S) (N := 6) hx hb ht ji_S hown hK hP 0 rfl rfl 5 (by decide) (ht _ k_S_33) (fun _ h9 => h9) rfl d_S_enter_1 ?_
  refine lv_iconst (v := nI 1) hx hb d_S_enter_4 (by decide) ?_
  refine lv_icmp_ne (tgt := 14) hx hb d_S_enter_5 (by decide) (fun h5 => ?_) (fun h5 => absurd (jw_eq (by omega) (by omega) h5) (by omega))
  have h5 := jw_ne (by omega) (by omega) h5
  refine lv_aload_n hx hb d_S_enter_14 rfl (lv_at hl 0 rfl) ?_
  refine lv_iload_n hx hb d_S_enter_15 rfl (lv_at hl 1 rfl) ?_
  refine lv_iload_n hx hb d_S_enter_16 rfl (lv_at hl 2 rfl) ?_
  refine jw_jv (ws := [(z, .inr (3, [.ref th, .ref ao, .ref an, .int (nI N0), .int (nI up0), .int (nI tr0)])), (ao, .inl (cI, 60, .inl so)), (an, .inl (cI, 60, .inl sn)), (th, .inr (4, [.ref ta, .int (nI t.2)])), (ta, .inl (cI, 68, .inl tf))]) (wc := [(z, .inr (3, [.ref th, .ref ao, .ref an, .int (nI N0), .int (nI up0), .int (nI tr0)])), (ao, .inl (cI, 60, .inl so)), (an, .inl (cI, 60, .inl sn))]) (wr := [(th, .inr (4, [.ref ta, .int (nI t.2)])), (ta, .inl (cI, 68, .inl tf))]) (jw_uV (As := [.int (nI (jt_po o)), .int (nI n)]) (rest := []) hx hb hml hown ht (m_S_write l D _ z ao an th cI _ _ so sn H0 N0 num hs hN6 o n) (o_S_write) k_S_55 rfl rfl ⟨Nat.le_of_ble_eq_true rfl, Nat.le_of_ble_eq_true rfl⟩ (hP.sub [0, 1, 2] rfl) (hK.sub [0] rfl) (hD.sub [0, 1, 2] (by decide) rfl) (va_recv (q0 := 0) (ci := 3) hK hP rfl rfl) rfl hl.1 rfl (Nat.le_of_ble_eq_true rfl) d_S_enter_17 ⟨Nat.zero_le _, Nat.zero_le _⟩) hP hD hS hA [0, 1, 2] [3, 4] rfl rfl (by decide) (by decide) (fun u1 H locs hu1 hP hD hS => ?_)
  have hP : va_P D jw_cl [(th, .inr (4, [.ref ta, .int (nI t.2)])), (ta, .inl (cI, 68, .inl tf)), (z, .inr (3, [.ref th, .ref ao, .ref an, .int (nI (N0 + 1)), .int (nI up0), .int (nI tr0)])), (ao, .inl (cI, 60, .inl u1.1)), (an, .inl (cI, 60, .inl u1.2))] H := hP
  have hD : va_D A [(th, .inr (4, [.ref ta, .int (nI t.2)])), (ta, .inl (cI, 68, .inl tf)), (z, .inr (3, [.ref th, .ref ao, .ref an, .int (nI (N0 + 1)), .int (nI up0), .int (nI tr0)])), (ao, .inl (cI, 60, .inl u1.1)), (an, .inl (cI, 60, .inl u1.2))] := hD
  refine lv_aload_n hx hb d_S_enter_20 rfl (lv_at hl 0 rfl) ?_
  refine va_get (D := D) (ci := 3) (v := .int (nI tr0)) (C := jn_S) (T := jf_S) (N := 6) hx hb ht ji_S hown hK hP 2 rfl rfl 5 (by decide) (ht _ k_S_33) (fun _ h9 => h9) rfl d_S_enter_21 ?_
  refine lv_iconst (v := nI 2) hx hb d_S_enter_24 (by decide) ?_
  refine lv_icmp_ne (tgt := 34) hx hb d_S_enter_25 (by decide) (fun h25 => absurd (jw_ne (by omega) (by omega) h25) (by omega)) (fun h25 => ?_)
  have h25 := jw_eq (by omega) (by omega) h25
  refine lv_aload_n hx hb d_S_enter_28 rfl (lv_at hl 0 rfl) ?_
  refine jw_jv (ws := [(th, .inr (4, [.ref ta, .int (nI t.2)])), (ta, .inl (cI, 68, .inl tf)), (z, .inr (3, [.ref th, .ref ao, .ref an, .int (nI (N0 + 1)), .int (nI up0), .int (nI tr0)])), (ao, .inl (cI, 60, .inl u1.1)), (an, .inl (cI, 60, .inl u1.2))]) (wc := [(z, .inr (3, [.ref th, .ref ao, .ref an, .int (nI (N0 + 1)), .int (nI up0), .int (nI tr0)]))]) (wr := [(th, .inr (4, [.ref ta, .int (nI t.2)])), (ta, .inl (cI, 68, .inl tf)), (ao, .inl (cI, 60, .inl u1.1)), (an, .inl (cI, 60, .inl u1.2))]) (jw_uV (As := []) (rest := []) hx hb hml hown ht (m_S_goDown l D _ z ao an th _ _ _) (o_S_goDown) k_S_52 rfl rfl ⟨Nat.le_of_ble_eq_true rfl, Nat.le_of_ble_eq_true rfl⟩ (hP.sub [2] rfl) (hK.sub [] rfl) (hD.sub [2] (by decide) rfl) (va_recv (q0 := 2) (ci := 3) hK hP rfl rfl) rfl hl.1 rfl (Nat.le_of_ble_eq_true rfl) d_S_enter_29 ⟨Nat.zero_le _, Nat.zero_le _⟩) hP hD hS hA [2] [0, 1, 3, 4] rfl rfl (by decide) (by decide) (fun u3 H locs hu3 hP hD hS => ?_)
  have hP : va_P D jw_cl [(th, .inr (4, [.ref ta, .int (nI t.2)])), (ta, .inl (cI, 68, .inl tf)), (ao, .inl (cI, 60, .inl u1.1)), (an, .inl (cI, 60, .inl u1.2)), (z, .inr (3, [.ref th, .ref ao, .ref an, .int (nI (N0 + 1)), .int (nI 0), .int (nI tr0)]))] H := hP
  have hD : va_D A [(th, .inr (4, [.ref ta, .int (nI t.2)])), (ta, .inl (cI, 68, .inl tf)), (ao, .inl (cI, 60, .inl u1.1)), (an, .inl (cI, 60, .inl u1.2)), (z, .inr (3, [.ref th, .ref ao, .ref an, .int (nI (N0 + 1)), .int (nI 0), .int (nI tr0)]))] := hD
  refine lv_iconst (v := nI 0) hx hb d_S_enter_32 (by decide) ?_
  have hP := hP.sub (ws' := [(z, .inr (3, [.ref th, .ref ao, .ref an, .int (nI (N0 + 1)), .int (nI 0), .int (nI tr0)])), (ao, .inl (cI, 60, .inl u1.1)), (an, .inl (cI, 60, .inl u1.2)), (th, .inr (4, [.ref ta, .int (nI t.2)])), (ta, .inl (cI, 68, .inl tf))]) [4, 2, 3, 0, 1] rfl
  have hD := hD.sub (ws' := [(z, .inr (3, [.ref th, .ref ao, .ref an, .int (nI (N0 + 1)), .int (nI 0), .int (nI tr0)])), (ao, .inl (cI, 60, .inl u1.1)), (an, .inl (cI, 60, .inl u1.2)), (th, .inr (4, [.ref ta, .int (nI t.2)])), (ta, .inl (cI, 68, .inl tf))]) [4, 2, 3, 0, 1] (by decide) rfl
  exact W.zret (v := nI 0) hx hb hr (by decide) (fun t9 ht9 hW9 => ⟨⟨nI 0, (u1.1, u1.2), rfl, ⟨rfl, hu1⟩, by rw [ht9]; exact hP, hD⟩, hS.F ht9⟩) hS.2.2 d_S_enter_33
