/-! The reference: one object, eighteen arrays. -/
abbrev jq_M : Type := Nat × Nat × Nat × Nat × Nat
def jq_n (g : Nat → Nat) : Nat → Int32 := fun i => nI (g i)
theorem jq_n_up {g : Nat → Nat} {i v : Nat} : upd (jq_n g) i (nI v) = jq_n (va_up g i v) := by
  funext j
  unfold upd jq_n va_up
  split
  · rfl
  · rfl
theorem jq_mul (a b : Nat) : nI a * nI b = nI (a * b) := (Int32.ofNat_mul a b).symm
def jq_k (O : Nat → jt_O) : Nat → Int32 := fun i => nI (O i).1
theorem jq_k_up {O : Nat → jt_O} {i : Nat} {o : jt_O} : upd (jq_k O) i (nI o.1) = jq_k (va_up O i o) := by
  funext j
  unfold upd jq_k va_up
  split
  · rfl
  · rfl
def jq_p (O : Nat → jt_O) : Nat → Int32 := fun i => nI (O i).2.1
theorem jq_p_up {O : Nat → jt_O} {i : Nat} {o : jt_O} : upd (jq_p O) i (nI o.2.1) = jq_p (va_up O i o) := by
  funext j
  unfold upd jq_p va_up
  split
  · rfl
  · rfl
def jq_l (O : Nat → jt_O) : Nat → Int32 := fun i => nI (O i).2.2.1
theorem jq_l_up {O : Nat → jt_O} {i : Nat} {o : jt_O} : upd (jq_l O) i (nI o.2.2.1) = jq_l (va_up O i o) := by
  funext j
  unfold upd jq_l va_up
  split
  · rfl
  · rfl
def jq_s (O : Nat → jt_O) : Nat → Int32 := fun i => nI (O i).2.2.2
theorem jq_s_up {O : Nat → jt_O} {i : Nat} {o : jt_O} : upd (jq_s O) i (nI o.2.2.2) = jq_s (va_up O i o) := by
  funext j
  unfold upd jq_s va_up
  split
  · rfl
  · rfl
def jq_m0 (O : Nat → jq_M) : Nat → Int32 := fun i => nI (O i).1
theorem jq_m0_up {O : Nat → jq_M} {i : Nat} {o : jq_M} : upd (jq_m0 O) i (nI o.1) = jq_m0 (va_up O i o) := by
  funext j
  unfold upd jq_m0 va_up
  split
  · rfl
  · rfl
def jq_m1 (O : Nat → jq_M) : Nat → Int32 := fun i => nI (O i).2.1
theorem jq_m1_up {O : Nat → jq_M} {i : Nat} {o : jq_M} : upd (jq_m1 O) i (nI o.2.1) = jq_m1 (va_up O i o) := by
  funext j
  unfold upd jq_m1 va_up
  split
  · rfl
  · rfl
def jq_m2 (O : Nat → jq_M) : Nat → Int32 := fun i => nI (O i).2.2.1
theorem jq_m2_up {O : Nat → jq_M} {i : Nat} {o : jq_M} : upd (jq_m2 O) i (nI o.2.2.1) = jq_m2 (va_up O i o) := by
  funext j
  unfold upd jq_m2 va_up
  split
  · rfl
  · rfl
def jq_m3 (O : Nat → jq_M) : Nat → Int32 := fun i => nI (O i).2.2.2.1
theorem jq_m3_up {O : Nat → jq_M} {i : Nat} {o : jq_M} : upd (jq_m3 O) i (nI o.2.2.2.1) = jq_m3 (va_up O i o) := by
  funext j
  unfold upd jq_m3 va_up
  split
  · rfl
  · rfl
def jq_m4 (O : Nat → jq_M) : Nat → Int32 := fun i => nI (O i).2.2.2.2
theorem jq_m4_up {O : Nat → jq_M} {i : Nat} {o : jq_M} : upd (jq_m4 O) i (nI o.2.2.2.2) = jq_m4 (va_up O i o) := by
  funext j
  unfold upd jq_m4 va_up
  split
  · rfl
  · rfl
set_option maxHeartbeats 4000000 in
set_option maxRecDepth 100000 in
theorem m_M_isClient (l : Launch) (D : va_G) (v : Int32) : Met l y_M_isClient w_M_isClient ({ frames := 0, cells := 0, slots := 0, locals := 0 }) (jw_P [.int v] D jw_cl [] []) (k2_QcV (.int (jw_b (decide (¬ v < 0 ∧ ¬ nI 2 < v))))) 0 0 (fun _ => False) := by
  refine Met.ofW (cc := c_M_isClient) (maxL := 1) (ret := (some .boolean)) (by decide) rfl ?_
  intro pg0 en0 s m args below meth cd0 s₁ B hml hv
  obtain ⟨rfl, hP, hK⟩ := hv
  have hx := B.exec
  have hb := B.bytes
  have hr := B.returns
  have hts := atoms_spec (ws := w_M_isClient) B.pre
  have ht : ∀ w ∈ jw_tbl, w.before _ s = true := fun w h => hts w (List.mem_cons_of_mem _ h)
  have hown : s.vm.findClass jn_M = some m.cls := findClass_of_methodNamed B.named
  have hlocks := B.notSynchronized
  have hl := lv_entry ([.int v]) (n := 1) (Nat.le_of_ble_eq_true rfl)
  rw [lg_entry_eq]
  generalize (lg_sl ([.int v]) ++ List.replicate (1 - (lg_sl ([.int v])).length) Slot.unset).toArray = ls at hl ⊢
  have hl : lv_has ls 1 [(0, .int v)] := hl
  refine lv_iload_n hx hb d_M_isClient_0 rfl (lv_at hl 0 rfl) ?_
  refine lv_if_lt (tgt := 13) hx hb d_M_isClient_1 (by decide) (fun h1 => ?_) (fun h1 => ?_)
  · skip
    refine lv_iconst (v := nI 0) hx hb d_M_isClient_13 (by decide) ?_
    exact W.zret (v := nI 0) hx hb hr (by decide) (fun t9 ht9 _ => ⟨congrArg (fun z => Outcome.returned (some (Value.int z))) (by simp [jw_b, *]), ht9⟩) (fun q h => by cases h) d_M_isClient_14
  · skip
    refine lv_iload_n hx hb d_M_isClient_4 rfl (lv_at hl 0 rfl) ?_
    refine lv_iconst (v := nI 2) hx hb d_M_isClient_5 (by decide) ?_
    refine lv_icmp_gt (tgt := 13) hx hb d_M_isClient_6 (by decide) (fun h6 => ?_) (fun h6 => ?_)
    · skip
      refine lv_iconst (v := nI 0) hx hb d_M_isClient_13 (by decide) ?_
      exact W.zret (v := nI 0) hx hb hr (by decide) (fun t9 ht9 _ => ⟨congrArg (fun z => Outcome.returned (some (Value.int z))) (by simp [jw_b, *]), ht9⟩) (fun q h => by cases h) d_M_isClient_14
    · skip
      refine lv_iconst (v := nI 1) hx hb d_M_isClient_9 (by decide) ?_
      refine lv_goto (tgt := 14) hx hb d_M_isClient_10 (by decide) ?_
      exact W.zret (v := nI 1) hx hb hr (by decide) (fun t9 ht9 _ => ⟨congrArg (fun z => Outcome.returned (some (Value.int z))) (by simp [jw_b, *]), ht9⟩) (fun q h => by cases h) d_M_isClient_14

set_option maxHeartbeats 4000000 in
set_option maxRecDepth 100000 in
theorem m_M_set (l : Launch) (D : va_G) (sz : Nat) (x : Nat) (ad : Nat → Nat) (cI cZ : ClassId) (O : Nat → jt_O) (num au rv of pn bk lg wh : Nat → Nat) (ms : Nat → jq_M) (wr dn tr wa : Nat) (tx : Nat → Int32) (si cd : Int32) (a0 k0 p0 c0 s0 : Nat) (ha : a0 < 358) : Met l y_M_set w_M_set ({ frames := 0, cells := 0, slots := 0, locals := 0 }) (jw_C [.ref x, .int (nI a0), .int (nI k0), .int (nI p0), .int (nI c0), .int (nI s0)] D jw_cl [(x, .inr (6, [.ref (ad 0), .ref (ad 1), .ref (ad 2), .ref (ad 3), .ref (ad 4), .int (nI wr), .ref (ad 5), .int (nI dn), .int (nI tr), .ref (ad 6), .ref (ad 7), .ref (ad 8), .ref (ad 9), .ref (ad 10), .ref (ad 11), .int (nI wa), .ref (ad 12), .ref (ad 13), .ref (ad 14), .ref (ad 15), .ref (ad 16), .ref (ad 17), .int si, .int cd])), ((ad 0), .inl (cI, 358, .inl (jq_k O))), ((ad 1), .inl (cI, 358, .inl (jq_p O))), ((ad 2), .inl (cI, 358, .inl (jq_l O))), ((ad 3), .inl (cI, 358, .inl (jq_s O))), ((ad 4), .inl (cI, 60, .inl (jq_n num))), ((ad 5), .inl (cI, 3, .inl (jq_n au))), ((ad 6), .inl (cI, 3, .inl (jq_n rv))), ((ad 7), .inl (cZ, 3, .inl (jq_n of))), ((ad 8), .inl (cI, 3, .inl (jq_n pn))), ((ad 9), .inl (cI, 3, .inl (jq_n bk))), ((ad 10), .inl (cI, 3, .inl (jq_n lg))), ((ad 11), .inl (cI, 240, .inl (jq_n wh))), ((ad 12), .inl (cI, 32, .inl (jq_m0 ms))), ((ad 13), .inl (cI, 32, .inl (jq_m1 ms))), ((ad 14), .inl (cI, 32, .inl (jq_m2 ms))), ((ad 15), .inl (cI, 32, .inl (jq_m3 ms))), ((ad 16), .inl (cI, 32, .inl (jq_m4 ms))), ((ad 17), .inl (cI, 90, .inl tx))] [(cI, .int), (cZ, .boolean)] sz) (va_Qv (fun _ : Unit => True) (jw_B D jw_cl (va_A [(x, .inr (6, [.ref (ad 0), .ref (ad 1), .ref (ad 2), .ref (ad 3), .ref (ad 4), .int (nI wr), .ref (ad 5), .int (nI dn), .int (nI tr), .ref (ad 6), .ref (ad 7), .ref (ad 8), .ref (ad 9), .ref (ad 10), .ref (ad 11), .int (nI wa), .ref (ad 12), .ref (ad 13), .ref (ad 14), .ref (ad 15), .ref (ad 16), .ref (ad 17), .int si, .int cd])), ((ad 0), .inl (cI, 358, .inl (jq_k O))), ((ad 1), .inl (cI, 358, .inl (jq_p O))), ((ad 2), .inl (cI, 358, .inl (jq_l O))), ((ad 3), .inl (cI, 358, .inl (jq_s O))), ((ad 4), .inl (cI, 60, .inl (jq_n num))), ((ad 5), .inl (cI, 3, .inl (jq_n au))), ((ad 6), .inl (cI, 3, .inl (jq_n rv))), ((ad 7), .inl (cZ, 3, .inl (jq_n of))), ((ad 8), .inl (cI, 3, .inl (jq_n pn))), ((ad 9), .inl (cI, 3, .inl (jq_n bk))), ((ad 10), .inl (cI, 3, .inl (jq_n lg))), ((ad 11), .inl (cI, 240, .inl (jq_n wh))), ((ad 12), .inl (cI, 32, .inl (jq_m0 ms))), ((ad 13), .inl (cI, 32, .inl (jq_m1 ms))), ((ad 14), .inl (cI, 32, .inl (jq_m2 ms))), ((ad 15), .inl (cI, 32, .inl (jq_m3 ms))), ((ad 16), .inl (cI, 32, .inl (jq_m4 ms))), ((ad 17), .inl (cI, 90, .inl tx))] sz) (fun _ : Unit => [(x, .inr (6, [.ref (ad 0), .ref (ad 1), .ref (ad 2), .ref (ad 3), .ref (ad 4), .int (nI wr), .ref (ad 5), .int (nI dn), .int (nI tr), .ref (ad 6), .ref (ad 7), .ref (ad 8), .ref (ad 9), .ref (ad 10), .ref (ad 11), .int (nI wa), .ref (ad 12), .ref (ad 13), .ref (ad 14), .ref (ad 15), .ref (ad 16), .ref (ad 17), .int si, .int cd])), ((ad 0), .inl (cI, 358, .inl (jq_k (va_up O a0 (k0, p0, c0, s0))))), ((ad 1), .inl (cI, 358, .inl (jq_p (va_up O a0 (k0, p0, c0, s0))))), ((ad 2), .inl (cI, 358, .inl (jq_l (va_up O a0 (k0, p0, c0, s0))))), ((ad 3), .inl (cI, 358, .inl (jq_s (va_up O a0 (k0, p0, c0, s0))))), ((ad 4), .inl (cI, 60, .inl (jq_n num))), ((ad 5), .inl (cI, 3, .inl (jq_n au))), ((ad 6), .inl (cI, 3, .inl (jq_n rv))), ((ad 7), .inl (cZ, 3, .inl (jq_n of))), ((ad 8), .inl (cI, 3, .inl (jq_n pn))), ((ad 9), .inl (cI, 3, .inl (jq_n bk))), ((ad 10), .inl (cI, 3, .inl (jq_n lg))), ((ad 11), .inl (cI, 240, .inl (jq_n wh))), ((ad 12), .inl (cI, 32, .inl (jq_m0 ms))), ((ad 13), .inl (cI, 32, .inl (jq_m1 ms))), ((ad 14), .inl (cI, 32, .inl (jq_m2 ms))), ((ad 15), .inl (cI, 32, .inl (jq_m3 ms))), ((ad 16), .inl (cI, 32, .inl (jq_m4 ms))), ((ad 17), .inl (cI, 90, .inl tx))])) (va_A [(x, .inr (6, [.ref (ad 0), .ref (ad 1), .ref (ad 2), .ref (ad 3), .ref (ad 4), .int (nI wr), .ref (ad 5), .int (nI dn), .int (nI tr), .ref (ad 6), .ref (ad 7), .ref (ad 8), .ref (ad 9), .ref (ad 10), .ref (ad 11), .int (nI wa), .ref (ad 12), .ref (ad 13), .ref (ad 14), .ref (ad 15), .ref (ad 16), .ref (ad 17), .int si, .int cd])), ((ad 0), .inl (cI, 358, .inl (jq_k O))), ((ad 1), .inl (cI, 358, .inl (jq_p O))), ((ad 2), .inl (cI, 358, .inl (jq_l O))), ((ad 3), .inl (cI, 358, .inl (jq_s O))), ((ad 4), .inl (cI, 60, .inl (jq_n num))), ((ad 5), .inl (cI, 3, .inl (jq_n au))), ((ad 6), .inl (cI, 3, .inl (jq_n rv))), ((ad 7), .inl (cZ, 3, .inl (jq_n of))), ((ad 8), .inl (cI, 3, .inl (jq_n pn))), ((ad 9), .inl (cI, 3, .inl (jq_n bk))), ((ad 10), .inl (cI, 3, .inl (jq_n lg))), ((ad 11), .inl (cI, 240, .inl (jq_n wh))), ((ad 12), .inl (cI, 32, .inl (jq_m0 ms))), ((ad 13), .inl (cI, 32, .inl (jq_m1 ms))), ((ad 14), .inl (cI, 32, .inl (jq_m2 ms))), ((ad 15), .inl (cI, 32, .inl (jq_m3 ms))), ((ad 16), .inl (cI, 32, .inl (jq_m4 ms))), ((ad 17), .inl (cI, 90, .inl tx))] sz)) 0 0 (va_A [(x, .inr (6, [.ref (ad 0), .ref (ad 1), .ref (ad 2), .ref (ad 3), .ref (ad 4), .int (nI wr), .ref (ad 5), .int (nI dn), .int (nI tr), .ref (ad 6), .ref (ad 7), .ref (ad 8), .ref (ad 9), .ref (ad 10), .ref (ad 11), .int (nI wa), .ref (ad 12), .ref (ad 13), .ref (ad 14), .ref (ad 15), .ref (ad 16), .ref (ad 17), .int si, .int cd])), ((ad 0), .inl (cI, 358, .inl (jq_k O))), ((ad 1), .inl (cI, 358, .inl (jq_p O))), ((ad 2), .inl (cI, 358, .inl (jq_l O))), ((ad 3), .inl (cI, 358, .inl (jq_s O))), ((ad 4), .inl (cI, 60, .inl (jq_n num))), ((ad 5), .inl (cI, 3, .inl (jq_n au))), ((ad 6), .inl (cI, 3, .inl (jq_n rv))), ((ad 7), .inl (cZ, 3, .inl (jq_n of))), ((ad 8), .inl (cI, 3, .inl (jq_n pn))), ((ad 9), .inl (cI, 3, .inl (jq_n bk))), ((ad 10), .inl (cI, 3, .inl (jq_n lg))), ((ad 11), .inl (cI, 240, .inl (jq_n wh))), ((ad 12), .inl (cI, 32, .inl (jq_m0 ms))), ((ad 13), .inl (cI, 32, .inl (jq_m1 ms))), ((ad 14), .inl (cI, 32, .inl (jq_m2 ms))), ((ad 15), .inl (cI, 32, .inl (jq_m3 ms))), ((ad 16), .inl (cI, 32, .inl (jq_m4 ms))), ((ad 17), .inl (cI, 90, .inl tx))] sz) := by
  refine Met.ofW (cc := c_M_set) (maxL := 6) (ret := none) (by decide) rfl ?_
  intro pg0 en0 s m args below meth cd0 s₁ B hml hv
  obtain ⟨rfl, hsz, hP, hK, hD0⟩ := hv
  have hx := B.exec
  have hb := B.bytes
  have hr := B.returns
  have hts := atoms_spec (ws := w_M_set) B.pre
  have ht : ∀ w ∈ jw_tbl, w.before _ s = true := fun w h => hts w (List.mem_cons_of_mem _ h)
  have hown : s.vm.findClass jn_M = some m.cls := findClass_of_methodNamed B.named
  have hlocks := B.notSynchronized
  subst hsz
  have hD := hD0.self (sz := s.heap.size)
  generalize hAe : va_A [(x, .inr (6, [.ref (ad 0), .ref (ad 1), .ref (ad 2), .ref (ad 3), .ref (ad 4), .int (nI wr), .ref (ad 5), .int (nI dn), .int (nI tr), .ref (ad 6), .ref (ad 7), .ref (ad 8), .ref (ad 9), .ref (ad 10), .ref (ad 11), .int (nI wa), .ref (ad 12), .ref (ad 13), .ref (ad 14), .ref (ad 15), .ref (ad 16), .ref (ad 17), .int si, .int cd])), ((ad 0), .inl (cI, 358, .inl (jq_k O))), ((ad 1), .inl (cI, 358, .inl (jq_p O))), ((ad 2), .inl (cI, 358, .inl (jq_l O))), ((ad 3), .inl (cI, 358, .inl (jq_s O))), ((ad 4), .inl (cI, 60, .inl (jq_n num))), ((ad 5), .inl (cI, 3, .inl (jq_n au))), ((ad 6), .inl (cI, 3, .inl (jq_n rv))), ((ad 7), .inl (cZ, 3, .inl (jq_n of))), ((ad 8), .inl (cI, 3, .inl (jq_n pn))), ((ad 9), .inl (cI, 3, .inl (jq_n bk))), ((ad 10), .inl (cI, 3, .inl (jq_n lg))), ((ad 11), .inl (cI, 240, .inl (jq_n wh))), ((ad 12), .inl (cI, 32, .inl (jq_m0 ms))), ((ad 13), .inl (cI, 32, .inl (jq_m1 ms))), ((ad 14), .inl (cI, 32, .inl (jq_m2 ms))), ((ad 15), .inl (cI, 32, .inl (jq_m3 ms))), ((ad 16), .inl (cI, 32, .inl (jq_m4 ms))), ((ad 17), .inl (cI, 90, .inl tx))] s.heap.size = A at hD ⊢
  have hA : ∀ q : Nat, s.heap.size ≤ q → A q := fun q h => by rw [← hAe]; exact Or.inr h
  have hS : va_S A s.heap s.heap [] := va_S.rf
  have hP : va_P D jw_cl [(x, .inr (6, [.ref (ad 0), .ref (ad 1), .ref (ad 2), .ref (ad 3), .ref (ad 4), .int (nI wr), .ref (ad 5), .int (nI dn), .int (nI tr), .ref (ad 6), .ref (ad 7), .ref (ad 8), .ref (ad 9), .ref (ad 10), .ref (ad 11), .int (nI wa), .ref (ad 12), .ref (ad 13), .ref (ad 14), .ref (ad 15), .ref (ad 16), .ref (ad 17), .int si, .int cd])), ((ad 0), .inl (cI, 358, .inl (jq_k O))), ((ad 1), .inl (cI, 358, .inl (jq_p O))), ((ad 2), .inl (cI, 358, .inl (jq_l O))), ((ad 3), .inl (cI, 358, .inl (jq_s O))), ((ad 4), .inl (cI, 60, .inl (jq_n num))), ((ad 5), .inl (cI, 3, .inl (jq_n au))), ((ad 6), .inl (cI, 3, .inl (jq_n rv))), ((ad 7), .inl (cZ, 3, .inl (jq_n of))), ((ad 8), .inl (cI, 3, .inl (jq_n pn))), ((ad 9), .inl (cI, 3, .inl (jq_n bk))), ((ad 10), .inl (cI, 3, .inl (jq_n lg))), ((ad 11), .inl (cI, 240, .inl (jq_n wh))), ((ad 12), .inl (cI, 32, .inl (jq_m0 ms))), ((ad 13), .inl (cI, 32, .inl (jq_m1 ms))), ((ad 14), .inl (cI, 32, .inl (jq_m2 ms))), ((ad 15), .inl (cI, 32, .inl (jq_m3 ms))), ((ad 16), .inl (cI, 32, .inl (jq_m4 ms))), ((ad 17), .inl (cI, 90, .inl tx))] s.heap := hP
  have hl := lv_entry ([.ref x, .int (nI a0), .int (nI k0), .int (nI p0), .int (nI c0), .int (nI s0)]) (n := 6) (Nat.le_of_ble_eq_true rfl)
  rw [lg_entry_eq]
  generalize (lg_sl ([.ref x, .int (nI a0), .int (nI k0), .int (nI p0), .int (nI c0), .int (nI s0)]) ++ List.replicate (6 - (lg_sl ([.ref x, .int (nI a0), .int (nI k0), .int (nI p0), .int (nI c0), .int (nI s0)])).length) Slot.unset).toArray = ls at hl ⊢
  have hl : lv_has ls 6 [(0, .ref x), (1, .int (nI a0)), (2, .int (nI k0)), (3, .int (nI p0)), (4, .int (nI c0)), (5, .int (nI s0))] := hl
  refine lv_aload_n hx hb d_M_set_0 rfl (lv_at hl 0 rfl) ?_
  refine va_get (D := D) (ci := 6) (v := .ref (ad 0)) (C := jn_M) (T := jf_M) (N := 24) hx hb ht ji_M hown hK hP 0 rfl rfl 0 (by decide) (ht _ k_M_7) (fun _ h9 => h9) rfl d_M_set_1 ?_
  refine lv_iload_n hx hb d_M_set_4 rfl (lv_at hl 1 rfl) ?_
  refine lv_iload_n hx hb d_M_set_5 rfl (lv_at hl 2 rfl) ?_
  refine va_iast hx hb hK hP hD hS 1 0 rfl rfl (vp_in_nI (by omega) (by decide)) d_M_set_6 (fun H locs hP hD hS => ?_)
  rw [show (nI a0).toNatClampNeg = a0 from nI_clamp (by omega)] at hP hD
  rw [show upd (jq_k O) a0 (nI k0) = jq_k (va_up O a0 (k0, p0, c0, s0)) from jq_k_up (o := (k0, p0, c0, s0))] at hP hD
  have hP : va_P D jw_cl [(x, .inr (6, [.ref (ad 0), .ref (ad 1), .ref (ad 2), .ref (ad 3), .ref (ad 4), .int (nI wr), .ref (ad 5), .int (nI dn), .int (nI tr), .ref (ad 6), .ref (ad 7), .ref (ad 8), .ref (ad 9), .ref (ad 10), .ref (ad 11), .int (nI wa), .ref (ad 12), .ref (ad 13), .ref (ad 14), .ref (ad 15), .ref (ad 16), .ref (ad 17), .int si, .int cd])), ((ad 0), .inl (cI, 358, .inl (jq_k (va_up O a0 (k0, p0, c0, s0))))), ((ad 1), .inl (cI, 358, .inl (jq_p O))), ((ad 2), .inl (cI, 358, .inl (jq_l O))), ((ad 3), .inl (cI, 358, .inl (jq_s O))), ((ad 4), .inl (cI, 60, .inl (jq_n num))), ((ad 5), .inl (cI, 3, .inl (jq_n au))), ((ad 6), .inl (cI, 3, .inl (jq_n rv))), ((ad 7), .inl (cZ, 3, .inl (jq_n of))), ((ad 8), .inl (cI, 3, .inl (jq_n pn))), ((ad 9), .inl (cI, 3, .inl (jq_n bk))), ((ad 10), .inl (cI, 3, .inl (jq_n lg))), ((ad 11), .inl (cI, 240, .inl (jq_n wh))), ((ad 12), .inl (cI, 32, .inl (jq_m0 ms))), ((ad 13), .inl (cI, 32, .inl (jq_m1 ms))), ((ad 14), .inl (cI, 32, .inl (jq_m2 ms))), ((ad 15), .inl (cI, 32, .inl (jq_m3 ms))), ((ad 16), .inl (cI, 32, .inl (jq_m4 ms))), ((ad 17), .inl (cI, 90, .inl tx))] H := hP
  have hD : va_D A [(x, .inr (6, [.ref (ad 0), .ref (ad 1), .ref (ad 2), .ref (ad 3), .ref (ad 4), .int (nI wr), .ref (ad 5), .int (nI dn), .int (nI tr), .ref (ad 6), .ref (ad 7), .ref (ad 8), .ref (ad 9), .ref (ad 10), .ref (ad 11), .int (nI wa), .ref (ad 12), .ref (ad 13), .ref (ad 14), .ref (ad 15), .ref (ad 16), .ref (ad 17), .int si, .int cd])), ((ad 0), .inl (cI, 358, .inl (jq_k (va_up O a0 (k0, p0, c0, s0))))), ((ad 1), .inl (cI, 358, .inl (jq_p O))), ((ad 2), .inl (cI, 358, .inl (jq_l O))), ((ad 3), .inl (cI, 358, .inl (jq_s O))), ((ad 4), .inl (cI, 60, .inl (jq_n num))), ((ad 5), .inl (cI, 3, .inl (jq_n au))), ((ad 6), .inl (cI, 3, .inl (jq_n rv))), ((ad 7), .inl (cZ, 3, .inl (jq_n of))), ((ad 8), .inl (cI, 3, .inl (jq_n pn))), ((ad 9), .inl (cI, 3, .inl (jq_n bk))), ((ad 10), .inl (cI, 3, .inl (jq_n lg))), ((ad 11), .inl (cI, 240, .inl (jq_n wh))), ((ad 12), .inl (cI, 32, .inl (jq_m0 ms))), ((ad 13), .inl (cI, 32, .inl (jq_m1 ms))), ((ad 14), .inl (cI, 32, .inl (jq_m2 ms))), ((ad 15), .inl (cI, 32, .inl (jq_m3 ms))), ((ad 16), .inl (cI, 32, .inl (jq_m4 ms))), ((ad 17), .inl (cI, 90, .inl tx))] := hD
  refine lv_aload_n hx hb d_M_set_7 rfl (lv_at hl 0 rfl) ?_
  refine va_get (D := D) (ci := 6) (v := .ref (ad 1)) (C := jn_M) (T := jf_M) (N := 24) hx hb ht ji_M hown hK hP 0 rfl rfl 1 (by decide) (ht _ k_M_13) (fun _ h9 => h9) rfl d_M_set_8 ?_
  refine lv_iload_n hx hb d_M_set_11 rfl (lv_at hl 1 rfl) ?_
  refine lv_iload_n hx hb d_M_set_12 rfl (lv_at hl 3 rfl) ?_
  refine va_iast hx hb hK hP hD hS 2 0 rfl rfl (vp_in_nI (by omega) (by decide)) d_M_set_13 (fun H locs hP hD hS => ?_)
  rw [show (nI a0).toNatClampNeg = a0 from nI_clamp (by omega)] at hP hD
  rw [show upd (jq_p O) a0 (nI p0) = jq_p (va_up O a0 (k0, p0, c0, s0)) from jq_p_up (o := (k0, p0, c0, s0))] at hP hD
  have hP : va_P D jw_cl [(x, .inr (6, [.ref (ad 0), .ref (ad 1), .ref (ad 2), .ref (ad 3), .ref (ad 4), .int (nI wr), .ref (ad 5), .int (nI dn), .int (nI tr), .ref (ad 6), .ref (ad 7), .ref (ad 8), .ref (ad 9), .ref (ad 10), .ref (ad 11), .int (nI wa), .ref (ad 12), .ref (ad 13), .ref (ad 14), .ref (ad 15), .ref (ad 16), .ref (ad 17), .int si, .int cd])), ((ad 0), .inl (cI, 358, .inl (jq_k (va_up O a0 (k0, p0, c0, s0))))), ((ad 1), .inl (cI, 358, .inl (jq_p (va_up O a0 (k0, p0, c0, s0))))), ((ad 2), .inl (cI, 358, .inl (jq_l O))), ((ad 3), .inl (cI, 358, .inl (jq_s O))), ((ad 4), .inl (cI, 60, .inl (jq_n num))), ((ad 5), .inl (cI, 3, .inl (jq_n au))), ((ad 6), .inl (cI, 3, .inl (jq_n rv))), ((ad 7), .inl (cZ, 3, .inl (jq_n of))), ((ad 8), .inl (cI, 3, .inl (jq_n pn))), ((ad 9), .inl (cI, 3, .inl (jq_n bk))), ((ad 10), .inl (cI, 3, .inl (jq_n lg))), ((ad 11), .inl (cI, 240, .inl (jq_n wh))), ((ad 12), .inl (cI, 32, .inl (jq_m0 ms))), ((ad 13), .inl (cI, 32, .inl (jq_m1 ms))), ((ad 14), .inl (cI, 32, .inl (jq_m2 ms))), ((ad 15), .inl (cI, 32, .inl (jq_m3 ms))), ((ad 16), .inl (cI, 32, .inl (jq_m4 ms))), ((ad 17), .inl (cI, 90, .inl tx))] H := hP
  have hD : va_D A [(x, .inr (6, [.ref (ad 0), .ref (ad 1), .ref (ad 2), .ref (ad 3), .ref (ad 4), .int (nI wr), .ref (ad 5), .int (nI dn), .int (nI tr), .ref (ad 6), .ref (ad 7), .ref (ad 8), .ref (ad 9), .ref (ad 10), .ref (ad 11), .int (nI wa), .ref (ad 12), .ref (ad 13), .ref (ad 14), .ref (ad 15), .ref (ad 16), .ref (ad 17), .int si, .int cd])), ((ad 0), .inl (cI, 358, .inl (jq_k (va_up O a0 (k0, p0, c0, s0))))), ((ad 1), .inl (cI, 358, .inl (jq_p (va_up O a0 (k0, p0, c0, s0))))), ((ad 2), .inl (cI, 358, .inl (jq_l O))), ((ad 3), .inl (cI, 358, .inl (jq_s O))), ((ad 4), .inl (cI, 60, .inl (jq_n num))), ((ad 5), .inl (cI, 3, .inl (jq_n au))), ((ad 6), .inl (cI, 3, .inl (jq_n rv))), ((ad 7), .inl (cZ, 3, .inl (jq_n of))), ((ad 8), .inl (cI, 3, .inl (jq_n pn))), ((ad 9), .inl (cI, 3, .inl (jq_n bk))), ((ad 10), .inl (cI, 3, .inl (jq_n lg))), ((ad 11), .inl (cI, 240, .inl (jq_n wh))), ((ad 12), .inl (cI, 32, .inl (jq_m0 ms))), ((ad 13), .inl (cI, 32, .inl (jq_m1 ms))), ((ad 14), .inl (cI, 32, .inl (jq_m2 ms))), ((ad 15), .inl (cI, 32, .inl (jq_m3 ms))), ((ad 16), .inl (cI, 32, .inl (jq_m4 ms))), ((ad 17), .inl (cI, 90, .inl tx))] := hD
  refine lv_aload_n hx hb d_M_set_14 rfl (lv_at hl 0 rfl) ?_
  refine va_get (D := D) (ci := 6) (v := .ref (ad 2)) (C := jn_M) (T := jf_M) (N := 24) hx hb ht ji_M hown hK hP 0 rfl rfl 2 (by decide) (ht _ k_M_16) (fun _ h9 => h9) rfl d_M_set_15 ?_
  refine lv_iload_n hx hb d_M_set_18 rfl (lv_at hl 1 rfl) ?_
  refine lv_iload hx hb d_M_set_19 (lv_at hl 4 rfl) ?_
  refine va_iast hx hb hK hP hD hS 3 0 rfl rfl (vp_in_nI (by omega) (by decide)) d_M_set_21 (fun H locs hP hD hS => ?_)
  rw [show (nI a0).toNatClampNeg = a0 from nI_clamp (by omega)] at hP hD
  rw [show upd (jq_l O) a0 (nI c0) = jq_l (va_up O a0 (k0, p0, c0, s0)) from jq_l_up (o := (k0, p0, c0, s0))] at hP hD
  have hP : va_P D jw_cl [(x, .inr (6, [.ref (ad 0), .ref (ad 1), .ref (ad 2), .ref (ad 3), .ref (ad 4), .int (nI wr), .ref (ad 5), .int (nI dn), .int (nI tr), .ref (ad 6), .ref (ad 7), .ref (ad 8), .ref (ad 9), .ref (ad 10), .ref (ad 11), .int (nI wa), .ref (ad 12), .ref (ad 13), .ref (ad 14), .ref (ad 15), .ref (ad 16), .ref (ad 17), .int si, .int cd])), ((ad 0), .inl (cI, 358, .inl (jq_k (va_up O a0 (k0, p0, c0, s0))))), ((ad 1), .inl (cI, 358, .inl (jq_p (va_up O a0 (k0, p0, c0, s0))))), ((ad 2), .inl (cI, 358, .inl (jq_l (va_up O a0 (k0, p0, c0, s0))))), ((ad 3), .inl (cI, 358, .inl (jq_s O))), ((ad 4), .inl (cI, 60, .inl (jq_n num))), ((ad 5), .inl (cI, 3, .inl (jq_n au))), ((ad 6), .inl (cI, 3, .inl (jq_n rv))), ((ad 7), .inl (cZ, 3, .inl (jq_n of))), ((ad 8), .inl (cI, 3, .inl (jq_n pn))), ((ad 9), .inl (cI, 3, .inl (jq_n bk))), ((ad 10), .inl (cI, 3, .inl (jq_n lg))), ((ad 11), .inl (cI, 240, .inl (jq_n wh))), ((ad 12), .inl (cI, 32, .inl (jq_m0 ms))), ((ad 13), .inl (cI, 32, .inl (jq_m1 ms))), ((ad 14), .inl (cI, 32, .inl (jq_m2 ms))), ((ad 15), .inl (cI, 32, .inl (jq_m3 ms))), ((ad 16), .inl (cI, 32, .inl (jq_m4 ms))), ((ad 17), .inl (cI, 90, .inl tx))] H := hP
  have hD : va_D A [(x, .inr (6, [.ref (ad 0), .ref (ad 1), .ref (ad 2), .ref (ad 3), .ref (ad 4), .int (nI wr), .ref (ad 5), .int (nI dn), .int (nI tr), .ref (ad 6), .ref (ad 7), .ref (ad 8), .ref (ad 9), .ref (ad 10), .ref (ad 11), .int (nI wa), .ref (ad 12), .ref (ad 13), .ref (ad 14), .ref (ad 15), .ref (ad 16), .ref (ad 17), .int si, .int cd])), ((ad 0), .inl (cI, 358, .inl (jq_k (va_up O a0 (k0, p0, c0, s0))))), ((ad 1), .inl (cI, 358, .inl (jq_p (va_up O a0 (k0, p0, c0, s0))))), ((ad 2), .inl (cI, 358, .inl (jq_l (va_up O a0 (k0, p0, c0, s0))))), ((ad 3), .inl (cI, 358, .inl (jq_s O))), ((ad 4), .inl (cI, 60, .inl (jq_n num))), ((ad 5), .inl (cI, 3, .inl (jq_n au))), ((ad 6), .inl (cI, 3, .inl (jq_n rv))), ((ad 7), .inl (cZ, 3, .inl (jq_n of))), ((ad 8), .inl (cI, 3, .inl (jq_n pn))), ((ad 9), .inl (cI, 3, .inl (jq_n bk))), ((ad 10), .inl (cI, 3, .inl (jq_n lg))), ((ad 11), .inl (cI, 240, .inl (jq_n wh))), ((ad 12), .inl (cI, 32, .inl (jq_m0 ms))), ((ad 13), .inl (cI, 32, .inl (jq_m1 ms))), ((ad 14), .inl (cI, 32, .inl (jq_m2 ms))), ((ad 15), .inl (cI, 32, .inl (jq_m3 ms))), ((ad 16), .inl (cI, 32, .inl (jq_m4 ms))), ((ad 17), .inl (cI, 90, .inl tx))] := hD
  refine lv_aload_n hx hb d_M_set_22 rfl (lv_at hl 0 rfl) ?_
  refine va_get (D := D) (ci := 6) (v := .ref (ad 3)) (C := jn_M) (T := jf_M) (N := 24) hx hb ht ji_M hown hK hP 0 rfl rfl 3 (by decide) (ht _ k_M_19) (fun _ h9 => h9) rfl d_M_set_23 ?_
  refine lv_iload_n hx hb d_M_set_26 rfl (lv_at hl 1 rfl) ?_
  refine lv_iload hx hb d_M_set_27 (lv_at hl 5 rfl) ?_
  refine va_iast hx hb hK hP hD hS 4 0 rfl rfl (vp_in_nI (by omega) (by decide)) d_M_set_29 (fun H locs hP hD hS => ?_)
  rw [show (nI a0).toNatClampNeg = a0 from nI_clamp (by omega)] at hP hD
  rw [show upd (jq_s O) a0 (nI s0) = jq_s (va_up O a0 (k0, p0, c0, s0)) from jq_s_up (o := (k0, p0, c0, s0))] at hP hD
  have hP : va_P D jw_cl [(x, .inr (6, [.ref (ad 0), .ref (ad 1), .ref (ad 2), .ref (ad 3), .ref (ad 4), .int (nI wr), .ref (ad 5), .int (nI dn), .int (nI tr), .ref (ad 6), .ref (ad 7), .ref (ad 8), .ref (ad 9), .ref (ad 10), .ref (ad 11), .int (nI wa), .ref (ad 12), .ref (ad 13), .ref (ad 14), .ref (ad 15), .ref (ad 16), .ref (ad 17), .int si, .int cd])), ((ad 0), .inl (cI, 358, .inl (jq_k (va_up O a0 (k0, p0, c0, s0))))), ((ad 1), .inl (cI, 358, .inl (jq_p (va_up O a0 (k0, p0, c0, s0))))), ((ad 2), .inl (cI, 358, .inl (jq_l (va_up O a0 (k0, p0, c0, s0))))), ((ad 3), .inl (cI, 358, .inl (jq_s (va_up O a0 (k0, p0, c0, s0))))), ((ad 4), .inl (cI, 60, .inl (jq_n num))), ((ad 5), .inl (cI, 3, .inl (jq_n au))), ((ad 6), .inl (cI, 3, .inl (jq_n rv))), ((ad 7), .inl (cZ, 3, .inl (jq_n of))), ((ad 8), .inl (cI, 3, .inl (jq_n pn))), ((ad 9), .inl (cI, 3, .inl (jq_n bk))), ((ad 10), .inl (cI, 3, .inl (jq_n lg))), ((ad 11), .inl (cI, 240, .inl (jq_n wh))), ((ad 12), .inl (cI, 32, .inl (jq_m0 ms))), ((ad 13), .inl (cI, 32, .inl (jq_m1 ms))), ((ad 14), .inl (cI, 32, .inl (jq_m2 ms))), ((ad 15), .inl (cI, 32, .inl (jq_m3 ms))), ((ad 16), .inl (cI, 32, .inl (jq_m4 ms))), ((ad 17), .inl (cI, 90, .inl tx))] H := hP
  have hD : va_D A [(x, .inr (6, [.ref (ad 0), .ref (ad 1), .ref (ad 2), .ref (ad 3), .ref (ad 4), .int (nI wr), .ref (ad 5), .int (nI dn), .int (nI tr), .ref (ad 6), .ref (ad 7), .ref (ad 8), .ref (ad 9), .ref (ad 10), .ref (ad 11), .int (nI wa), .ref (ad 12), .ref (ad 13), .ref (ad 14), .ref (ad 15), .ref (ad 16), .ref (ad 17), .int si, .int cd])), ((ad 0), .inl (cI, 358, .inl (jq_k (va_up O a0 (k0, p0, c0, s0))))), ((ad 1), .inl (cI, 358, .inl (jq_p (va_up O a0 (k0, p0, c0, s0))))), ((ad 2), .inl (cI, 358, .inl (jq_l (va_up O a0 (k0, p0, c0, s0))))), ((ad 3), .inl (cI, 358, .inl (jq_s (va_up O a0 (k0, p0, c0, s0))))), ((ad 4), .inl (cI, 60, .inl (jq_n num))), ((ad 5), .inl (cI, 3, .inl (jq_n au))), ((ad 6), .inl (cI, 3, .inl (jq_n rv))), ((ad 7), .inl (cZ, 3, .inl (jq_n of))), ((ad 8), .inl (cI, 3, .inl (jq_n pn))), ((ad 9), .inl (cI, 3, .inl (jq_n bk))), ((ad 10), .inl (cI, 3, .inl (jq_n lg))), ((ad 11), .inl (cI, 240, .inl (jq_n wh))), ((ad 12), .inl (cI, 32, .inl (jq_m0 ms))), ((ad 13), .inl (cI, 32, .inl (jq_m1 ms))), ((ad 14), .inl (cI, 32, .inl (jq_m2 ms))), ((ad 15), .inl (cI, 32, .inl (jq_m3 ms))), ((ad 16), .inl (cI, 32, .inl (jq_m4 ms))), ((ad 17), .inl (cI, 90, .inl tx))] := hD
  exact W.vret hx hb hr (fun t9 ht9 hW9 => ⟨⟨(), rfl, trivial, by rw [ht9]; exact hP, hD⟩, hS.F ht9⟩) hS.2.2 d_M_set_30

set_option maxHeartbeats 4000000 in
set_option maxRecDepth 100000 in
theorem m_M_copy (l : Launch) (D : va_G) (sz : Nat) (x : Nat) (ad : Nat → Nat) (cI cZ : ClassId) (O : Nat → jt_O) (num au rv of pn bk lg wh : Nat → Nat) (ms : Nat → jq_M) (wr dn tr wa : Nat) (tx : Nat → Int32) (si cd : Int32) (f0 a0 : Nat) (hf : f0 < 358) (ha : a0 < 358) : Met l y_M_copy w_M_copy ({ frames := 1, cells := 0, slots := 0, locals := 25 }) (jw_C [.ref x, .int (nI f0), .int (nI a0)] D jw_cl [(x, .inr (6, [.ref (ad 0), .ref (ad 1), .ref (ad 2), .ref (ad 3), .ref (ad 4), .int (nI wr), .ref (ad 5), .int (nI dn), .int (nI tr), .ref (ad 6), .ref (ad 7), .ref (ad 8), .ref (ad 9), .ref (ad 10), .ref (ad 11), .int (nI wa), .ref (ad 12), .ref (ad 13), .ref (ad 14), .ref (ad 15), .ref (ad 16), .ref (ad 17), .int si, .int cd])), ((ad 0), .inl (cI, 358, .inl (jq_k O))), ((ad 1), .inl (cI, 358, .inl (jq_p O))), ((ad 2), .inl (cI, 358, .inl (jq_l O))), ((ad 3), .inl (cI, 358, .inl (jq_s O))), ((ad 4), .inl (cI, 60, .inl (jq_n num))), ((ad 5), .inl (cI, 3, .inl (jq_n au))), ((ad 6), .inl (cI, 3, .inl (jq_n rv))), ((ad 7), .inl (cZ, 3, .inl (jq_n of))), ((ad 8), .inl (cI, 3, .inl (jq_n pn))), ((ad 9), .inl (cI, 3, .inl (jq_n bk))), ((ad 10), .inl (cI, 3, .inl (jq_n lg))), ((ad 11), .inl (cI, 240, .inl (jq_n wh))), ((ad 12), .inl (cI, 32, .inl (jq_m0 ms))), ((ad 13), .inl (cI, 32, .inl (jq_m1 ms))), ((ad 14), .inl (cI, 32, .inl (jq_m2 ms))), ((ad 15), .inl (cI, 32, .inl (jq_m3 ms))), ((ad 16), .inl (cI, 32, .inl (jq_m4 ms))), ((ad 17), .inl (cI, 90, .inl tx))] [(cI, .int), (cZ, .boolean)] sz) (va_Qv (fun _ : Unit => True) (jw_B D jw_cl (va_A [(x, .inr (6, [.ref (ad 0), .ref (ad 1), .ref (ad 2), .ref (ad 3), .ref (ad 4), .int (nI wr), .ref (ad 5), .int (nI dn), .int (nI tr), .ref (ad 6), .ref (ad 7), .ref (ad 8), .ref (ad 9), .ref (ad 10), .ref (ad 11), .int (nI wa), .ref (ad 12), .ref (ad 13), .ref (ad 14), .ref (ad 15), .ref (ad 16), .ref (ad 17), .int si, .int cd])), ((ad 0), .inl (cI, 358, .inl (jq_k O))), ((ad 1), .inl (cI, 358, .inl (jq_p O))), ((ad 2), .inl (cI, 358, .inl (jq_l O))), ((ad 3), .inl (cI, 358, .inl (jq_s O))), ((ad 4), .inl (cI, 60, .inl (jq_n num))), ((ad 5), .inl (cI, 3, .inl (jq_n au))), ((ad 6), .inl (cI, 3, .inl (jq_n rv))), ((ad 7), .inl (cZ, 3, .inl (jq_n of))), ((ad 8), .inl (cI, 3, .inl (jq_n pn))), ((ad 9), .inl (cI, 3, .inl (jq_n bk))), ((ad 10), .inl (cI, 3, .inl (jq_n lg))), ((ad 11), .inl (cI, 240, .inl (jq_n wh))), ((ad 12), .inl (cI, 32, .inl (jq_m0 ms))), ((ad 13), .inl (cI, 32, .inl (jq_m1 ms))), ((ad 14), .inl (cI, 32, .inl (jq_m2 ms))), ((ad 15), .inl (cI, 32, .inl (jq_m3 ms))), ((ad 16), .inl (cI, 32, .inl (jq_m4 ms))), ((ad 17), .inl (cI, 90, .inl tx))] sz) (fun _ : Unit => [(x, .inr (6, [.ref (ad 0), .ref (ad 1), .ref (ad 2), .ref (ad 3), .ref (ad 4), .int (nI wr), .ref (ad 5), .int (nI dn), .int (nI tr), .ref (ad 6), .ref (ad 7), .ref (ad 8), .ref (ad 9), .ref (ad 10), .ref (ad 11), .int (nI wa), .ref (ad 12), .ref (ad 13), .ref (ad 14), .ref (ad 15), .ref (ad 16), .ref (ad 17), .int si, .int cd])), ((ad 0), .inl (cI, 358, .inl (jq_k (va_up O a0 (O f0))))), ((ad 1), .inl (cI, 358, .inl (jq_p (va_up O a0 (O f0))))), ((ad 2), .inl (cI, 358, .inl (jq_l (va_up O a0 (O f0))))), ((ad 3), .inl (cI, 358, .inl (jq_s (va_up O a0 (O f0))))), ((ad 4), .inl (cI, 60, .inl (jq_n num))), ((ad 5), .inl (cI, 3, .inl (jq_n au))), ((ad 6), .inl (cI, 3, .inl (jq_n rv))), ((ad 7), .inl (cZ, 3, .inl (jq_n of))), ((ad 8), .inl (cI, 3, .inl (jq_n pn))), ((ad 9), .inl (cI, 3, .inl (jq_n bk))), ((ad 10), .inl (cI, 3, .inl (jq_n lg))), ((ad 11), .inl (cI, 240, .inl (jq_n wh))), ((ad 12), .inl (cI, 32, .inl (jq_m0 ms))), ((ad 13), .inl (cI, 32, .inl (jq_m1 ms))), ((ad 14), .inl (cI, 32, .inl (jq_m2 ms))), ((ad 15), .inl (cI, 32, .inl (jq_m3 ms))), ((ad 16), .inl (cI, 32, .inl (jq_m4 ms))), ((ad 17), .inl (cI, 90, .inl tx))])) (va_A [(x, .inr (6, [.ref (ad 0), .ref (ad 1), .ref (ad 2), .ref (ad 3), .ref (ad 4), .int (nI wr), .ref (ad 5), .int (nI dn), .int (nI tr), .ref (ad 6), .ref (ad 7), .ref (ad 8), .ref (ad 9), .ref (ad 10), .ref (ad 11), .int (nI wa), .ref (ad 12), .ref (ad 13), .ref (ad 14), .ref (ad 15), .ref (ad 16), .ref (ad 17), .int si, .int cd])), ((ad 0), .inl (cI, 358, .inl (jq_k O))), ((ad 1), .inl (cI, 358, .inl (jq_p O))), ((ad 2), .inl (cI, 358, .inl (jq_l O))), ((ad 3), .inl (cI, 358, .inl (jq_s O))), ((ad 4), .inl (cI, 60, .inl (jq_n num))), ((ad 5), .inl (cI, 3, .inl (jq_n au))), ((ad 6), .inl (cI, 3, .inl (jq_n rv))), ((ad 7), .inl (cZ, 3, .inl (jq_n of))), ((ad 8), .inl (cI, 3, .inl (jq_n pn))), ((ad 9), .inl (cI, 3, .inl (jq_n bk))), ((ad 10), .inl (cI, 3, .inl (jq_n lg))), ((ad 11), .inl (cI, 240, .inl (jq_n wh))), ((ad 12), .inl (cI, 32, .inl (jq_m0 ms))), ((ad 13), .inl (cI, 32, .inl (jq_m1 ms))), ((ad 14), .inl (cI, 32, .inl (jq_m2 ms))), ((ad 15), .inl (cI, 32, .inl (jq_m3 ms))), ((ad 16), .inl (cI, 32, .inl (jq_m4 ms))), ((ad 17), .inl (cI, 90, .inl tx))] sz)) 0 0 (va_A [(x, .inr (6, [.ref (ad 0), .ref (ad 1), .ref (ad 2), .ref (ad 3), .ref (ad 4), .int (nI wr), .ref (ad 5), .int (nI dn), .int (nI tr), .ref (ad 6), .ref (ad 7), .ref (ad 8), .ref (ad 9), .ref (ad 10), .ref (ad 11), .int (nI wa), .ref (ad 12), .ref (ad 13), .ref (ad 14), .ref (ad 15), .ref (ad 16), .ref (ad 17), .int si, .int cd])), ((ad 0), .inl (cI, 358, .inl (jq_k O))), ((ad 1), .inl (cI, 358, .inl (jq_p O))), ((ad 2), .inl (cI, 358, .inl (jq_l O))), ((ad 3), .inl (cI, 358, .inl (jq_s O))), ((ad 4), .inl (cI, 60, .inl (jq_n num))), ((ad 5), .inl (cI, 3, .inl (jq_n au))), ((ad 6), .inl (cI, 3, .inl (jq_n rv))), ((ad 7), .inl (cZ, 3, .inl (jq_n of))), ((ad 8), .inl (cI, 3, .inl (jq_n pn))), ((ad 9), .inl (cI, 3, .inl (jq_n bk))), ((ad 10), .inl (cI, 3, .inl (jq_n lg))), ((ad 11), .inl (cI, 240, .inl (jq_n wh))), ((ad 12), .inl (cI, 32, .inl (jq_m0 ms))), ((ad 13), .inl (cI, 32, .inl (jq_m1 ms))), ((ad 14), .inl (cI, 32, .inl (jq_m2 ms))), ((ad 15), .inl (cI, 32, .inl (jq_m3 ms))), ((ad 16), .inl (cI, 32, .inl (jq_m4 ms))), ((ad 17), .inl (cI, 90, .inl tx))] sz) := by
  refine Met.ofW (cc := c_M_copy) (maxL := 3) (ret := none) (by decide) rfl ?_
  intro pg0 en0 s m args below meth cd0 s₁ B hml hv
  obtain ⟨rfl, hsz, hP, hK, hD0⟩ := hv
  have hx := B.exec
  have hb := B.bytes
  have hr := B.returns
  have hts := atoms_spec (ws := w_M_copy) B.pre
  have ht : ∀ w ∈ jw_tbl, w.before _ s = true := fun w h => hts w (List.mem_cons_of_mem _ h)
  have hown : s.vm.findClass jn_M = some m.cls := findClass_of_methodNamed B.named
  have hlocks := B.notSynchronized
  subst hsz
  have hD := hD0.self (sz := s.heap.size)
  generalize hAe : va_A [(x, .inr (6, [.ref (ad 0), .ref (ad 1), .ref (ad 2), .ref (ad 3), .ref (ad 4), .int (nI wr), .ref (ad 5), .int (nI dn), .int (nI tr), .ref (ad 6), .ref (ad 7), .ref (ad 8), .ref (ad 9), .ref (ad 10), .ref (ad 11), .int (nI wa), .ref (ad 12), .ref (ad 13), .ref (ad 14), .ref (ad 15), .ref (ad 16), .ref (ad 17), .int si, .int cd])), ((ad 0), .inl (cI, 358, .inl (jq_k O))), ((ad 1), .inl (cI, 358, .inl (jq_p O))), ((ad 2), .inl (cI, 358, .inl (jq_l O))), ((ad 3), .inl (cI, 358, .inl (jq_s O))), ((ad 4), .inl (cI, 60, .inl (jq_n num))), ((ad 5), .inl (cI, 3, .inl (jq_n au))), ((ad 6), .inl (cI, 3, .inl (jq_n rv))), ((ad 7), .inl (cZ, 3, .inl (jq_n of))), ((ad 8), .inl (cI, 3, .inl (jq_n pn))), ((ad 9), .inl (cI, 3, .inl (jq_n bk))), ((ad 10), .inl (cI, 3, .inl (jq_n lg))), ((ad 11), .inl (cI, 240, .inl (jq_n wh))), ((ad 12), .inl (cI, 32, .inl (jq_m0 ms))), ((ad 13), .inl (cI, 32, .inl (jq_m1 ms))), ((ad 14), .inl (cI, 32, .inl (jq_m2 ms))), ((ad 15), .inl (cI, 32, .inl (jq_m3 ms))), ((ad 16), .inl (cI, 32, .inl (jq_m4 ms))), ((ad 17), .inl (cI, 90, .inl tx))] s.heap.size = A at hD ⊢
  have hA : ∀ q : Nat, s.heap.size ≤ q → A q := fun q h => by rw [← hAe]; exact Or.inr h
  have hS : va_S A s.heap s.heap [] := va_S.rf
  have hP : va_P D jw_cl [(x, .inr (6, [.ref (ad 0), .ref (ad 1), .ref (ad 2), .ref (ad 3), .ref (ad 4), .int (nI wr), .ref (ad 5), .int (nI dn), .int (nI tr), .ref (ad 6), .ref (ad 7), .ref (ad 8), .ref (ad 9), .ref (ad 10), .ref (ad 11), .int (nI wa), .ref (ad 12), .ref (ad 13), .ref (ad 14), .ref (ad 15), .ref (ad 16), .ref (ad 17), .int si, .int cd])), ((ad 0), .inl (cI, 358, .inl (jq_k O))), ((ad 1), .inl (cI, 358, .inl (jq_p O))), ((ad 2), .inl (cI, 358, .inl (jq_l O))), ((ad 3), .inl (cI, 358, .inl (jq_s O))), ((ad 4), .inl (cI, 60, .inl (jq_n num))), ((ad 5), .inl (cI, 3, .inl (jq_n au))), ((ad 6), .inl (cI, 3, .inl (jq_n rv))), ((ad 7), .inl (cZ, 3, .inl (jq_n of))), ((ad 8), .inl (cI, 3, .inl (jq_n pn))), ((ad 9), .inl (cI, 3, .inl (jq_n bk))), ((ad 10), .inl (cI, 3, .inl (jq_n lg))), ((ad 11), .inl (cI, 240, .inl (jq_n wh))), ((ad 12), .inl (cI, 32, .inl (jq_m0 ms))), ((ad 13), .inl (cI, 32, .inl (jq_m1 ms))), ((ad 14), .inl (cI, 32, .inl (jq_m2 ms))), ((ad 15), .inl (cI, 32, .inl (jq_m3 ms))), ((ad 16), .inl (cI, 32, .inl (jq_m4 ms))), ((ad 17), .inl (cI, 90, .inl tx))] s.heap := hP
  have hl := lv_entry ([.ref x, .int (nI f0), .int (nI a0)]) (n := 3) (Nat.le_of_ble_eq_true rfl)
  rw [lg_entry_eq]
  generalize (lg_sl ([.ref x, .int (nI f0), .int (nI a0)]) ++ List.replicate (3 - (lg_sl ([.ref x, .int (nI f0), .int (nI a0)])).length) Slot.unset).toArray = ls at hl ⊢
  have hl : lv_has ls 3 [(0, .ref x), (1, .int (nI f0)), (2, .int (nI a0))] := hl
  refine lv_aload_n hx hb d_M_copy_0 rfl (lv_at hl 0 rfl) ?_
  refine lv_iload_n hx hb d_M_copy_1 rfl (lv_at hl 2 rfl) ?_
  refine lv_aload_n hx hb d_M_copy_2 rfl (lv_at hl 0 rfl) ?_
  refine va_get (D := D) (ci := 6) (v := .ref (ad 0)) (C := jn_M) (T := jf_M) (N := 24) hx hb ht ji_M hown hK hP 0 rfl rfl 0 (by decide) (ht _ k_M_7) (fun _ h9 => h9) rfl d_M_copy_3 ?_
  refine lv_iload_n hx hb d_M_copy_6 rfl (lv_at hl 1 rfl) ?_
  refine va_iald hx hb hK hP 1 0 rfl rfl (vp_in_nI (by omega) (by decide)) d_M_copy_7 ?_
  rw [show (nI f0).toNatClampNeg = f0 from nI_clamp (by omega)]
  rw [show (jq_k O) f0 = nI ((O f0).1) from rfl]
  refine lv_aload_n hx hb d_M_copy_8 rfl (lv_at hl 0 rfl) ?_
  refine va_get (D := D) (ci := 6) (v := .ref (ad 1)) (C := jn_M) (T := jf_M) (N := 24) hx hb ht ji_M hown hK hP 0 rfl rfl 1 (by decide) (ht _ k_M_13) (fun _ h9 => h9) rfl d_M_copy_9 ?_
  refine lv_iload_n hx hb d_M_copy_12 rfl (lv_at hl 1 rfl) ?_
  refine va_iald hx hb hK hP 2 0 rfl rfl (vp_in_nI (by omega) (by decide)) d_M_copy_13 ?_
  rw [show (nI f0).toNatClampNeg = f0 from nI_clamp (by omega)]
  rw [show (jq_p O) f0 = nI ((O f0).2.1) from rfl]
  refine lv_aload_n hx hb d_M_copy_14 rfl (lv_at hl 0 rfl) ?_
  refine va_get (D := D) (ci := 6) (v := .ref (ad 2)) (C := jn_M) (T := jf_M) (N := 24) hx hb ht ji_M hown hK hP 0 rfl rfl 2 (by decide) (ht _ k_M_16) (fun _ h9 => h9) rfl d_M_copy_15 ?_
  refine lv_iload_n hx hb d_M_copy_18 rfl (lv_at hl 1 rfl) ?_
  refine va_iald hx hb hK hP 3 0 rfl rfl (vp_in_nI (by omega) (by decide)) d_M_copy_19 ?_
  rw [show (nI f0).toNatClampNeg = f0 from nI_clamp (by omega)]
  rw [show (jq_l O) f0 = nI ((O f0).2.2.1) from rfl]
  refine lv_aload_n hx hb d_M_copy_20 rfl (lv_at hl 0 rfl) ?_
  refine va_get (D := D) (ci := 6) (v := .ref (ad 3)) (C := jn_M) (T := jf_M) (N := 24) hx hb ht ji_M hown hK hP 0 rfl rfl 3 (by decide) (ht _ k_M_19) (fun _ h9 => h9) rfl d_M_copy_21 ?_
  refine lv_iload_n hx hb d_M_copy_24 rfl (lv_at hl 1 rfl) ?_
  refine va_iald hx hb hK hP 4 0 rfl rfl (vp_in_nI (by omega) (by decide)) d_M_copy_25 ?_
  rw [show (nI f0).toNatClampNeg = f0 from nI_clamp (by omega)]
  rw [show (jq_s O) f0 = nI ((O f0).2.2.2) from rfl]
  refine jw_jv (ws := [(x, .inr (6, [.ref (ad 0), .ref (ad 1), .ref (ad 2), .ref (ad 3), .ref (ad 4), .int (nI wr), .ref (ad 5), .int (nI dn), .int (nI tr), .ref (ad 6), .ref (ad 7), .ref (ad 8), .ref (ad 9), .ref (ad 10), .ref (ad 11), .int (nI wa), .ref (ad 12), .ref (ad 13), .ref (ad 14), .ref (ad 15), .ref (ad 16), .ref (ad 17), .int si, .int cd])), ((ad 0), .inl (cI, 358, .inl (jq_k O))), ((ad 1), .inl (cI, 358, .inl (jq_p O))), ((ad 2), .inl (cI, 358, .inl (jq_l O))), ((ad 3), .inl (cI, 358, .inl (jq_s O))), ((ad 4), .inl (cI, 60, .inl (jq_n num))), ((ad 5), .inl (cI, 3, .inl (jq_n au))), ((ad 6), .inl (cI, 3, .inl (jq_n rv))), ((ad 7), .inl (cZ, 3, .inl (jq_n of))), ((ad 8), .inl (cI, 3, .inl (jq_n pn))), ((ad 9), .inl (cI, 3, .inl (jq_n bk))), ((ad 10), .inl (cI, 3, .inl (jq_n lg))), ((ad 11), .inl (cI, 240, .inl (jq_n wh))), ((ad 12), .inl (cI, 32, .inl (jq_m0 ms))), ((ad 13), .inl (cI, 32, .inl (jq_m1 ms))), ((ad 14), .inl (cI, 32, .inl (jq_m2 ms))), ((ad 15), .inl (cI, 32, .inl (jq_m3 ms))), ((ad 16), .inl (cI, 32, .inl (jq_m4 ms))), ((ad 17), .inl (cI, 90, .inl tx))]) (wc := [(x, .inr (6, [.ref (ad 0), .ref (ad 1), .ref (ad 2), .ref (ad 3), .ref (ad 4), .int (nI wr), .ref (ad 5), .int (nI dn), .int (nI tr), .ref (ad 6), .ref (ad 7), .ref (ad 8), .ref (ad 9), .ref (ad 10), .ref (ad 11), .int (nI wa), .ref (ad 12), .ref (ad 13), .ref (ad 14), .ref (ad 15), .ref (ad 16), .ref (ad 17), .int si, .int cd])), ((ad 0), .inl (cI, 358, .inl (jq_k O))), ((ad 1), .inl (cI, 358, .inl (jq_p O))), ((ad 2), .inl (cI, 358, .inl (jq_l O))), ((ad 3), .inl (cI, 358, .inl (jq_s O))), ((ad 4), .inl (cI, 60, .inl (jq_n num))), ((ad 5), .inl (cI, 3, .inl (jq_n au))), ((ad 6), .inl (cI, 3, .inl (jq_n rv))), ((ad 7), .inl (cZ, 3, .inl (jq_n of))), ((ad 8), .inl (cI, 3, .inl (jq_n pn))), ((ad 9), .inl (cI, 3, .inl (jq_n bk))), ((ad 10), .inl (cI, 3, .inl (jq_n lg))), ((ad 11), .inl (cI, 240, .inl (jq_n wh))), ((ad 12), .inl (cI, 32, .inl (jq_m0 ms))), ((ad 13), .inl (cI, 32, .inl (jq_m1 ms))), ((ad 14), .inl (cI, 32, .inl (jq_m2 ms))), ((ad 15), .inl (cI, 32, .inl (jq_m3 ms))), ((ad 16), .inl (cI, 32, .inl (jq_m4 ms))), ((ad 17), .inl (cI, 90, .inl tx))]) (wr := []) (jw_uV (As := [.int (nI a0), .int (nI ((O f0).1)), .int (nI ((O f0).2.1)), .int (nI ((O f0).2.2.1)), .int (nI ((O f0).2.2.2))]) (rest := []) hx hb hml hown ht (m_M_set l D _ x ad cI cZ O num au rv of pn bk lg wh ms wr dn tr wa tx si cd a0 ((O f0).1) ((O f0).2.1) ((O f0).2.2.1) ((O f0).2.2.2) (by omega)) (o_M_set) k_M_69 rfl rfl ⟨Nat.le_of_ble_eq_true rfl, Nat.le_of_ble_eq_true rfl⟩ (hP.sub [0, 1, 2, 3, 4, 5, 6, 7, 8, 9, 10, 11, 12, 13, 14, 15, 16, 17, 18] rfl) (hK.sub [0, 1] rfl) (hD.sub [0, 1, 2, 3, 4, 5, 6, 7, 8, 9, 10, 11, 12, 13, 14, 15, 16, 17, 18] (by decide) rfl) (va_recv (q0 := 0) (ci := 6) hK hP rfl rfl) rfl hl.1 rfl (Nat.le_of_ble_eq_true rfl) d_M_copy_26 ⟨Nat.zero_le _, Nat.zero_le _⟩) hP hD hS hA [0, 1, 2, 3, 4, 5, 6, 7, 8, 9, 10, 11, 12, 13, 14, 15, 16, 17, 18] [] rfl rfl (by decide) (by decide) (fun u1 H locs hu1 hP hD hS => ?_)
  have hP : va_P D jw_cl [(x, .inr (6, [.ref (ad 0), .ref (ad 1), .ref (ad 2), .ref (ad 3), .ref (ad 4), .int (nI wr), .ref (ad 5), .int (nI dn), .int (nI tr), .ref (ad 6), .ref (ad 7), .ref (ad 8), .ref (ad 9), .ref (ad 10), .ref (ad 11), .int (nI wa), .ref (ad 12), .ref (ad 13), .ref (ad 14), .ref (ad 15), .ref (ad 16), .ref (ad 17), .int si, .int cd])), ((ad 0), .inl (cI, 358, .inl (jq_k (va_up O a0 ((O f0).1, (O f0).2.1, (O f0).2.2.1, (O f0).2.2.2))))), ((ad 1), .inl (cI, 358, .inl (jq_p (va_up O a0 ((O f0).1, (O f0).2.1, (O f0).2.2.1, (O f0).2.2.2))))), ((ad 2), .inl (cI, 358, .inl (jq_l (va_up O a0 ((O f0).1, (O f0).2.1, (O f0).2.2.1, (O f0).2.2.2))))), ((ad 3), .inl (cI, 358, .inl (jq_s (va_up O a0 ((O f0).1, (O f0).2.1, (O f0).2.2.1, (O f0).2.2.2))))), ((ad 4), .inl (cI, 60, .inl (jq_n num))), ((ad 5), .inl (cI, 3, .inl (jq_n au))), ((ad 6), .inl (cI, 3, .inl (jq_n rv))), ((ad 7), .inl (cZ, 3, .inl (jq_n of))), ((ad 8), .inl (cI, 3, .inl (jq_n pn))), ((ad 9), .inl (cI, 3, .inl (jq_n bk))), ((ad 10), .inl (cI, 3, .inl (jq_n lg))), ((ad 11), .inl (cI, 240, .inl (jq_n wh))), ((ad 12), .inl (cI, 32, .inl (jq_m0 ms))), ((ad 13), .inl (cI, 32, .inl (jq_m1 ms))), ((ad 14), .inl (cI, 32, .inl (jq_m2 ms))), ((ad 15), .inl (cI, 32, .inl (jq_m3 ms))), ((ad 16), .inl (cI, 32, .inl (jq_m4 ms))), ((ad 17), .inl (cI, 90, .inl tx))] H := hP
  have hD : va_D A [(x, .inr (6, [.ref (ad 0), .ref (ad 1), .ref (ad 2), .ref (ad 3), .ref (ad 4), .int (nI wr), .ref (ad 5), .int (nI dn), .int (nI tr), .ref (ad 6), .ref (ad 7), .ref (ad 8), .ref (ad 9), .ref (ad 10), .ref (ad 11), .int (nI wa), .ref (ad 12), .ref (ad 13), .ref (ad 14), .ref (ad 15), .ref (ad 16), .ref (ad 17), .int si, .int cd])), ((ad 0), .inl (cI, 358, .inl (jq_k (va_up O a0 ((O f0).1, (O f0).2.1, (O f0).2.2.1, (O f0).2.2.2))))), ((ad 1), .inl (cI, 358, .inl (jq_p (va_up O a0 ((O f0).1, (O f0).2.1, (O f0).2.2.1, (O f0).2.2.2))))), ((ad 2), .inl (cI, 358, .inl (jq_l (va_up O a0 ((O f0).1, (O f0).2.1, (O f0).2.2.1, (O f0).2.2.2))))), ((ad 3), .inl (cI, 358, .inl (jq_s (va_up O a0 ((O f0).1, (O f0).2.1, (O f0).2.2.1, (O f0).2.2.2))))), ((ad 4), .inl (cI, 60, .inl (jq_n num))), ((ad 5), .inl (cI, 3, .inl (jq_n au))), ((ad 6), .inl (cI, 3, .inl (jq_n rv))), ((ad 7), .inl (cZ, 3, .inl (jq_n of))), ((ad 8), .inl (cI, 3, .inl (jq_n pn))), ((ad 9), .inl (cI, 3, .inl (jq_n bk))), ((ad 10), .inl (cI, 3, .inl (jq_n lg))), ((ad 11), .inl (cI, 240, .inl (jq_n wh))), ((ad 12), .inl (cI, 32, .inl (jq_m0 ms))), ((ad 13), .inl (cI, 32, .inl (jq_m1 ms))), ((ad 14), .inl (cI, 32, .inl (jq_m2 ms))), ((ad 15), .inl (cI, 32, .inl (jq_m3 ms))), ((ad 16), .inl (cI, 32, .inl (jq_m4 ms))), ((ad 17), .inl (cI, 90, .inl tx))] := hD
  exact W.vret hx hb hr (fun t9 ht9 hW9 => ⟨⟨(), rfl, trivial, by rw [ht9]; exact hP, hD⟩, hS.F ht9⟩) hS.2.2 d_M_copy_29
