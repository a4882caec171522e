/-- the row of a text holds its characters -/
def jt_rt (f : Nat → Int32) (t : jt_T) : Prop := ∀ i, i < t.2 → f i = nI (t.1 i)
theorem jt_rt_put {f : Nat → Int32} {t : jt_T} {p ch st : Nat} (h : jt_rt f t) (hp : p ≤ t.2) : jt_rt (upd (va_cpy f f p (p + 1) (t.2 - p)) p (nI ch)) (jt_pf t (1, p, ch, st)) := by
  intro i hi
  have hi : i < t.2 + 1 := hi
  show _ = nI (if i < p then t.1 i else if i = p then ch else t.1 (i - 1))
  by_cases h1 : i < p
  · rw [if_pos h1, pk_un (by omega), pk_cpy_out (Or.inl (by omega))]
    exact h i (by omega)
  · rw [if_neg h1]
    by_cases h2 : i = p
    · rw [if_pos h2, h2, pk_us]
    · rw [if_neg h2, pk_un h2, pk_cpy_in (by omega) (by omega), show p + (i - (p + 1)) = i - 1 by omega]
      exact h (i - 1) (by omega)
theorem jt_rt_off {f : Nat → Int32} {t : jt_T} {p ch st : Nat} (h : jt_rt f t) (hp : p < t.2) : jt_rt (va_cpy f f (p + 1) p (t.2 - p - 1)) (jt_pf t (2, p, ch, st)) := by
  intro i hi
  have hi : i < t.2 - 1 := hi
  show _ = nI (if i < p then t.1 i else t.1 (i + 1))
  by_cases h1 : i < p
  · rw [if_pos h1, pk_cpy_out (Or.inl (by omega))]
    exact h i (by omega)
  · rw [if_neg h1, pk_cpy_in (by omega) (by omega), show p + 1 + (i - p) = i + 1 by omega]
    exact h (i + 1) (by omega)
theorem jw_has_y {p n : Nat} (h : p < n) (hn : n < 2 ^ 31) : jw_b (decide (¬ nI p < 0 ∧ ¬ nI n ≤ nI p)) = nI 1 := by
  rw [decide_eq_true ⟨nI_pos (by omega), nI_ge h hn⟩]
  rfl

set_option maxHeartbeats 4000000 in
set_option maxRecDepth 100000 in
theorem m_T_size (l : Launch) (D : va_G) (h a : Nat) (v : Int32) : Met l y_T_size w_T_size ({ frames := 0, cells := 0, slots := 0, locals := 0 }) (jw_P [.ref h] D jw_cl [(h, .inr (4, [.ref a, .int v]))] []) (k2_QcV (.int v)) 0 0 (fun _ => False) := by
  refine Met.ofW (cc := c_T_size) (maxL := 1) (ret := (some .int)) (by decide) rfl ?_
  intro pg0 en0 s m args below meth cd0 s₁ B hml hv
  obtain ⟨rfl, hP, hK⟩ := hv
  have hx := B.exec
  have hb := B.bytes
  have hr := B.returns
  have hts := atoms_spec (ws := w_T_size) B.pre
  have ht : ∀ w ∈ jw_tbl, w.before _ s = true := fun w h => hts w (List.mem_cons_of_mem _ h)
  have hown : s.vm.findClass jn_T = some m.cls := findClass_of_methodNamed B.named
  have hlocks := B.notSynchronized
  have hl := lv_entry ([.ref h]) (n := 1) (Nat.le_of_ble_eq_true rfl)
  rw [lg_entry_eq]
  generalize (lg_sl ([.ref h]) ++ List.replicate (1 - (lg_sl ([.ref h])).length) Slot.unset).toArray = ls at hl ⊢
  have hl : lv_has ls 1 [(0, .ref h)] := hl
  refine lv_aload_n hx hb d_T_size_0 rfl (lv_at hl 0 rfl) ?_
  refine va_get (D := D) (ci := 4) (v := .int v) (C := jn_T) (T := jf_T) (N := 2) hx hb ht ji_T hown hK hP 0 rfl rfl 1 (by decide) (ht _ k_T_15) (fun _ h9 => h9) rfl d_T_size_1 ?_
  exact W.iret (v := v) hx hb hr (fun t9 ht9 _ => ⟨rfl, ht9⟩) (fun q h => by cases h) d_T_size_4

set_option maxHeartbeats 4000000 in
set_option maxRecDepth 100000 in
theorem m_T_has (l : Launch) (D : va_G) (h a : Nat) (v x : Int32) : Met l y_T_has w_T_has ({ frames := 0, cells := 0, slots := 0, locals := 0 }) (jw_P [.ref h, .int x] D jw_cl [(h, .inr (4, [.ref a, .int v]))] []) (k2_QcV (.int (jw_b (decide (¬ x < 0 ∧ ¬ v ≤ x))))) 0 0 (fun _ => False) := by
  refine Met.ofW (cc := c_T_has) (maxL := 2) (ret := (some .boolean)) (by decide) rfl ?_
  intro pg0 en0 s m args below meth cd0 s₁ B hml hv
  obtain ⟨rfl, hP, hK⟩ := hv
  have hx := B.exec
  have hb := B.bytes
  have hr := B.returns
  have hts := atoms_spec (ws := w_T_has) B.pre
  have ht : ∀ w ∈ jw_tbl, w.before _ s = true := fun w h => hts w (List.mem_cons_of_mem _ h)
  have hown : s.vm.findClass jn_T = some m.cls := findClass_of_methodNamed B.named
  have hlocks := B.notSynchronized
  have hl := lv_entry ([.ref h, .int x]) (n := 2) (Nat.le_of_ble_eq_true rfl)
  rw [lg_entry_eq]
  generalize (lg_sl ([.ref h, .int x]) ++ List.replicate (2 - (lg_sl ([.ref h, .int x])).length) Slot.unset).toArray = ls at hl ⊢
  have hl : lv_has ls 2 [(0, .ref h), (1, .int x)] := hl
  refine lv_iload_n hx hb d_T_has_0 rfl (lv_at hl 1 rfl) ?_
  refine lv_if_lt (tgt := 16) hx hb d_T_has_1 (by decide) (fun h1 => ?_) (fun h1 => ?_)
  · skip
    refine lv_iconst (v := nI 0) hx hb d_T_has_16 (by decide) ?_
    exact W.zret (v := nI 0) hx hb hr (by decide) (fun t9 ht9 _ => ⟨congrArg (fun z => Outcome.returned (some (Value.int z))) (by simp [jw_b, *]), ht9⟩) (fun q h => by cases h) d_T_has_17
  · skip
    refine lv_iload_n hx hb d_T_has_4 rfl (lv_at hl 1 rfl) ?_
    refine lv_aload_n hx hb d_T_has_5 rfl (lv_at hl 0 rfl) ?_
    refine va_get (D := D) (ci := 4) (v := .int v) (C := jn_T) (T := jf_T) (N := 2) hx hb ht ji_T hown hK hP 0 rfl rfl 1 (by decide) (ht _ k_T_15) (fun _ h9 => h9) rfl d_T_has_6 ?_
    refine lv_icmp_ge (tgt := 16) hx hb d_T_has_9 (by decide) (fun h9 => ?_) (fun h9 => ?_)
    · skip
      refine lv_iconst (v := nI 0) hx hb d_T_has_16 (by decide) ?_
      exact W.zret (v := nI 0) hx hb hr (by decide) (fun t9 ht9 _ => ⟨congrArg (fun z => Outcome.returned (some (Value.int z))) (by simp [jw_b, *]), ht9⟩) (fun q h => by cases h) d_T_has_17
    · skip
      refine lv_iconst (v := nI 1) hx hb d_T_has_12 (by decide) ?_
      refine lv_goto (tgt := 17) hx hb d_T_has_13 (by decide) ?_
      exact W.zret (v := nI 1) hx hb hr (by decide) (fun t9 ht9 _ => ⟨congrArg (fun z => Outcome.returned (some (Value.int z))) (by simp [jw_b, *]), ht9⟩) (fun q h => by cases h) d_T_has_17

theorem m_T_has_y (l : Launch) (D : va_G) (h a n p : Nat) (hp : p < n) (hn : n < 2 ^ 31) : Met l y_T_has w_T_has ({ frames := 0, cells := 0, slots := 0, locals := 0 }) (jw_P [.ref h, .int (nI p)] D jw_cl [(h, .inr (4, [.ref a, .int (nI n)]))] []) (k2_QcV (.int (nI 1))) 0 0 (fun _ => False) := by
  have q := m_T_has l D h a (nI n) (nI p)
  rw [jw_has_y hp hn] at q
  exact q

set_option maxHeartbeats 4000000 in
set_option maxRecDepth 100000 in
theorem m_T_at (l : Launch) (D : va_G) (h a : Nat) (cI : ClassId) (f : Nat → Int32) (t : jt_T) (hf : jt_rt f t) (ht2 : t.2 ≤ 68) (p0 : Nat) (hp : p0 < t.2) : Met l y_T_at w_T_at ({ frames := 1, cells := 0, slots := 0, locals := 21 }) (jw_P [.ref h, .int (nI p0)] D jw_cl [(h, .inr (4, [.ref a, .int (nI t.2)])), (a, .inl (cI, 68, .inl f))] [(cI, .int)]) (k2_QcV (.int (nI (t.1 p0)))) 0 0 (fun _ => False) := by
  refine Met.ofW (cc := c_T_at) (maxL := 2) (ret := (some .int)) (by decide) rfl ?_
  intro pg0 en0 s m args below meth cd0 s₁ B hml hv
  obtain ⟨rfl, hP, hK⟩ := hv
  have hx := B.exec
  have hb := B.bytes
  have hr := B.returns
  have hts := atoms_spec (ws := w_T_at) B.pre
  have ht : ∀ w ∈ jw_tbl, w.before _ s = true := fun w h => hts w (List.mem_cons_of_mem _ h)
  have hown : s.vm.findClass jn_T = some m.cls := findClass_of_methodNamed B.named
  have hlocks := B.notSynchronized
  have hl := lv_entry ([.ref h, .int (nI p0)]) (n := 2) (Nat.le_of_ble_eq_true rfl)
  rw [lg_entry_eq]
  generalize (lg_sl ([.ref h, .int (nI p0)]) ++ List.replicate (2 - (lg_sl ([.ref h, .int (nI p0)])).length) Slot.unset).toArray = ls at hl ⊢
  have hl : lv_has ls 2 [(0, .ref h), (1, .int (nI p0))] := hl
  refine lv_aload_n hx hb d_T_at_0 rfl (lv_at hl 0 rfl) ?_
  refine lv_iload_n hx hb d_T_at_1 rfl (lv_at hl 1 rfl) ?_
  refine jw_rV (As := [.int (nI p0)]) (rest := []) hx hb hml hown ht (m_T_has_y l D h a _ p0 (by omega) (by omega)) (o_T_has) k_T_19 rfl rfl ⟨Nat.le_of_ble_eq_true rfl, Nat.le_of_ble_eq_true rfl⟩ (hP.sub [0] rfl) (hK.sub [] rfl) (va_recv (q0 := 0) (ci := 4) hK hP rfl rfl) rfl hl.1 rfl (Nat.le_of_ble_eq_true rfl) d_T_at_2 ⟨Nat.zero_le _, Nat.zero_le _⟩ ?_
  refine lv_if_eq (tgt := 17) hx hb d_T_at_5 (by decide) (fun h5 => absurd (jw_eq0 (by omega) h5) (by omega)) (fun h5 => ?_)
  have h5 := jw_ne0 (by omega) h5
  refine lv_aload_n hx hb d_T_at_8 rfl (lv_at hl 0 rfl) ?_
  refine va_get (D := D) (ci := 4) (v := .ref a) (C := jn_T) (T := jf_T) (N := 2) hx hb ht ji_T hown hK hP 0 rfl rfl 0 (by decide) (ht _ k_T_9) (fun _ h9 => h9) rfl d_T_at_9 ?_
  refine lv_iload_n hx hb d_T_at_12 rfl (lv_at hl 1 rfl) ?_
  refine va_iald hx hb hK hP 1 0 rfl rfl (vp_in_nI (by omega) (by decide)) d_T_at_13 ?_
  rw [show (nI p0).toNatClampNeg = p0 from nI_clamp (by omega)]
  rw [show f p0 = nI (t.1 p0) from hf p0 hp]
  refine lv_goto (tgt := 18) hx hb d_T_at_14 (by decide) ?_
  exact W.iret (v := nI (t.1 p0)) hx hb hr (fun t9 ht9 _ => ⟨rfl, ht9⟩) (fun q h => by cases h) d_T_at_18

set_option maxHeartbeats 4000000 in
set_option maxRecDepth 100000 in
theorem m_T_empty (l : Launch) (D : va_G) (sz : Nat) (h a : Nat) (v : Int32) : Met l y_T_empty w_T_empty ({ frames := 0, cells := 0, slots := 0, locals := 0 }) (jw_C [.ref h] D jw_cl [(h, .inr (4, [.ref a, .int v]))] [] sz) (va_Qv (fun _ : Unit => True) (jw_B D jw_cl (va_A [(h, .inr (4, [.ref a, .int v]))] sz) (fun _ => [(h, .inr (4, [.ref a, .int (nI 0)]))])) (va_A [(h, .inr (4, [.ref a, .int v]))] sz)) 0 0 (va_A [(h, .inr (4, [.ref a, .int v]))] sz) := by
  refine Met.ofW (cc := c_T_empty) (maxL := 1) (ret := none) (by decide) rfl ?_
  intro pg0 en0 s m args below meth cd0 s₁ B hml hv
  obtain ⟨rfl, hsz, hP, hK, hD0⟩ := hv
  have hx := B.exec
  have hb := B.bytes
  have hr := B.returns
  have hts := atoms_spec (ws := w_T_empty) B.pre
  have ht : ∀ w ∈ jw_tbl, w.before _ s = true := fun w h => hts w (List.mem_cons_of_mem _ h)
  have hown : s.vm.findClass jn_T = some m.cls := findClass_of_methodNamed B.named
  have hlocks := B.notSynchronized
  subst hsz
  have hD := hD0.self (sz := s.heap.size)
  generalize hAe : va_A [(h, .inr (4, [.ref a, .int v]))] s.heap.size = A at hD ⊢
  have hA : ∀ q : Nat, s.heap.size ≤ q → A q := fun q h => by rw [← hAe]; exact Or.inr h
  have hS : va_S A s.heap s.heap [] := va_S.rf
  have hP : va_P D jw_cl [(h, .inr (4, [.ref a, .int v]))] s.heap := hP
  have hl := lv_entry ([.ref h]) (n := 1) (Nat.le_of_ble_eq_true rfl)
  rw [lg_entry_eq]
  generalize (lg_sl ([.ref h]) ++ List.replicate (1 - (lg_sl ([.ref h])).length) Slot.unset).toArray = ls at hl ⊢
  have hl : lv_has ls 1 [(0, .ref h)] := hl
  refine lv_aload_n hx hb d_T_empty_0 rfl (lv_at hl 0 rfl) ?_
  refine lv_iconst (v := nI 0) hx hb d_T_empty_1 (by decide) ?_
  refine va_put (D := D) (ci := 4) (v := .int (nI 0)) (ty := .int) (C := jn_T) (T := jf_T) (N := 2) hx hb ht ji_T jy_T jo_T jm_T hown hK hP hD hS 0 rfl rfl 1 (by decide) (ht _ k_T_15) (fun _ h9 => h9) rfl (by decide +kernel) rfl rfl (Nat.le_of_ble_eq_true rfl) d_T_empty_2 (fun H locs hP hD hS => ?_)
  have hP : va_P D jw_cl [(h, .inr (4, [.ref a, .int (nI 0)]))] H := hP
  have hD : va_D A [(h, .inr (4, [.ref a, .int (nI 0)]))] := hD
  exact W.vret hx hb hr (fun t9 ht9 hW9 => ⟨⟨(), rfl, trivial, by rw [ht9]; exact hP, hD⟩, hS.F ht9⟩) hS.2.2 d_T_empty_5

set_option maxHeartbeats 4000000 in
set_option maxRecDepth 100000 in
theorem m_T_putIn (l : Launch) (D : va_G) (sz : Nat) (h a : Nat) (cI : ClassId) (f : Nat → Int32) (t : jt_T) (hf : jt_rt f t) (ht2 : t.2 ≤ 68) (p0 c0 s0 : Nat) (hp : p0 ≤ t.2) (hl68 : t.2 < 68) : Met l y_T_putIn w_T_putIn ({ frames := 1, cells := 0, slots := 0, locals := 18 }) (jw_C [.ref h, .int (nI p0), .int (nI c0)] D jw_cl [(h, .inr (4, [.ref a, .int (nI t.2)])), (a, .inl (cI, 68, .inl f))] [(cI, .int)] sz) (va_Qv (fun u : Nat → Int32 => jt_rt u (jt_pf t (1, p0, c0, s0))) (jw_B D jw_cl (va_A [(h, .inr (4, [.ref a, .int (nI t.2)])), (a, .inl (cI, 68, .inl f))] sz) (fun u : Nat → Int32 => [(h, .inr (4, [.ref a, .int (nI (t.2 + 1))])), (a, .inl (cI, 68, .inl u))])) (va_A [(h, .inr (4, [.ref a, .int (nI t.2)])), (a, .inl (cI, 68, .inl f))] sz)) 0 0 (va_A [(h, .inr (4, [.ref a, .int (nI t.2)])), (a, .inl (cI, 68, .inl f))] sz) := by
  refine Met.ofW (cc := c_T_putIn) (maxL := 3) (ret := none) (by decide) rfl ?_
  intro pg0 en0 s m args below meth cd0 s₁ B hml hv
  obtain ⟨rfl, hsz, hP, hK, hD0⟩ := hv
  have hx := B.exec
  have hb := B.bytes
  have hr := B.returns
  have hts := atoms_spec (ws := w_T_putIn) B.pre
  have ht : ∀ w ∈ jw_tbl, w.before _ s = true := fun w h => hts w (List.mem_cons_of_mem _ h)
  have hown : s.vm.findClass jn_T = some m.cls := findClass_of_methodNamed B.named
  have hlocks := B.notSynchronized
  subst hsz
  have hD := hD0.self (sz := s.heap.size)
  generalize hAe : va_A [(h, .inr (4, [.ref a, .int (nI t.2)])), (a, .inl (cI, 68, .inl f))] s.heap.size = A at hD ⊢
  have hA : ∀ q : Nat, s.heap.size ≤ q → A q := fun q h => by rw [← hAe]; exact Or.inr h
  have hS : va_S A s.heap s.heap [] := va_S.rf
  have hP : va_P D jw_cl [(h, .inr (4, [.ref a, .int (nI t.2)])), (a, .inl (cI, 68, .inl f))] s.heap := hP
  have hl := lv_entry ([.ref h, .int (nI p0), .int (nI c0)]) (n := 3) (Nat.le_of_ble_eq_true rfl)
  rw [lg_entry_eq]
  generalize (lg_sl ([.ref h, .int (nI p0), .int (nI c0)]) ++ List.replicate (3 - (lg_sl ([.ref h, .int (nI p0), .int (nI c0)])).length) Slot.unset).toArray = ls at hl ⊢
  have hl : lv_has ls 3 [(0, .ref h), (1, .int (nI p0)), (2, .int (nI c0))] := hl
  refine lv_iload_n hx hb d_T_putIn_0 rfl (lv_at hl 1 rfl) ?_
  refine lv_if_lt (tgt := 21) hx hb d_T_putIn_1 (by decide) (fun h1 => absurd (jw_lt0 (by omega) h1) (by omega)) (fun h1 => ?_)
  have h1 := jw_nlt0 (by omega) h1
  refine lv_iload_n hx hb d_T_putIn_4 rfl (lv_at hl 1 rfl) ?_
  refine lv_aload_n hx hb d_T_putIn_5 rfl (lv_at hl 0 rfl) ?_
  refine va_get (D := D) (ci := 4) (v := .int (nI t.2)) (C := jn_T) (T := jf_T) (N := 2) hx hb ht ji_T hown hK hP 0 rfl rfl 1 (by decide) (ht _ k_T_15) (fun _ h9 => h9) rfl d_T_putIn_6 ?_
  refine lv_icmp_gt (tgt := 21) hx hb d_T_putIn_9 (by decide) (fun h9 => absurd (jw_gt (by omega) (by omega) h9) (by omega)) (fun h9 => ?_)
  have h9 := jw_ngt (by omega) (by omega) h9
  refine lv_aload_n hx hb d_T_putIn_12 rfl (lv_at hl 0 rfl) ?_
  refine va_get (D := D) (ci := 4) (v := .int (nI t.2)) (C := jn_T) (T := jf_T) (N := 2) hx hb ht ji_T hown hK hP 0 rfl rfl 1 (by decide) (ht _ k_T_15) (fun _ h9 => h9) rfl d_T_putIn_13 ?_
  refine lv_bipush (v := nI 68) hx hb d_T_putIn_16 (by decide) ?_
  refine lv_icmp_lt (tgt := 22) hx hb d_T_putIn_18 (by decide) (fun h18 => ?_) (fun h18 => absurd (jw_nlt (by omega) (by omega) h18) (by omega))
  have h18 := jw_lt (by omega) (by omega) h18
  refine lv_aload_n hx hb d_T_putIn_22 rfl (lv_at hl 0 rfl) ?_
  refine va_get (D := D) (ci := 4) (v := .ref a) (C := jn_T) (T := jf_T) (N := 2) hx hb ht ji_T hown hK hP 0 rfl rfl 0 (by decide) (ht _ k_T_9) (fun _ h9 => h9) rfl d_T_putIn_23 ?_
  refine lv_iload_n hx hb d_T_putIn_26 rfl (lv_at hl 1 rfl) ?_
  refine lv_aload_n hx hb d_T_putIn_27 rfl (lv_at hl 0 rfl) ?_
  refine va_get (D := D) (ci := 4) (v := .ref a) (C := jn_T) (T := jf_T) (N := 2) hx hb ht ji_T hown hK hP 0 rfl rfl 0 (by decide) (ht _ k_T_9) (fun _ h9 => h9) rfl d_T_putIn_28 ?_
  refine lv_iload_n hx hb d_T_putIn_31 rfl (lv_at hl 1 rfl) ?_
  refine lv_iconst (v := nI 1) hx hb d_T_putIn_32 (by decide) ?_
  refine lv_iadd hx hb d_T_putIn_33 ?_
  refine lv_topi (fun v1 ev1 => ?_)
  obtain rfl : v1 = nI (p0 + 1) := ev1.trans (nI_add _ _)
  refine lv_aload_n hx hb d_T_putIn_34 rfl (lv_at hl 0 rfl) ?_
  refine va_get (D := D) (ci := 4) (v := .int (nI t.2)) (C := jn_T) (T := jf_T) (N := 2) hx hb ht ji_T hown hK hP 0 rfl rfl 1 (by decide) (ht _ k_T_15) (fun _ h9 => h9) rfl d_T_putIn_35 ?_
  refine lv_iload_n hx hb d_T_putIn_38 rfl (lv_at hl 1 rfl) ?_
  refine lv_isub hx hb d_T_putIn_39 ?_
  refine lv_topi (fun v2 ev2 => ?_)
  obtain rfl : v2 = nI (t.2 - p0) := ev2.trans (pk_sub (by omega))
  refine va_copyi hx hb (hml.trans hl.1.symm) hown (ht _ k_T_46) (ht _ k_ac_n) (ht _ k_ac_s) (ht _ k_ac_i) hK hP hD hS 1 1 0 0 rfl rfl rfl rfl rfl (nI_pos (by omega)) (nI_pos (by omega)) (nI_pos (by omega)) (by rw [show (nI p0).toNatClampNeg = p0 from nI_clamp (by omega), show (nI (t.2 - p0)).toNatClampNeg = t.2 - p0 from nI_clamp (by omega)]; omega) (by rw [show (nI (p0 + 1)).toNatClampNeg = p0 + 1 from nI_clamp (by omega), show (nI (t.2 - p0)).toNatClampNeg = t.2 - p0 from nI_clamp (by omega)]; omega) (fun _ _ => rfl) (Nat.le_of_ble_eq_true rfl) (Nat.le_of_ble_eq_true rfl) d_T_putIn_40 (fun H locs hP hD hS => ?_)
  try rw [show (nI p0).toNatClampNeg = p0 from nI_clamp (by omega)] at hP hD
  try rw [show (nI (p0 + 1)).toNatClampNeg = p0 + 1 from nI_clamp (by omega)] at hP hD
  try rw [show (nI (t.2 - p0)).toNatClampNeg = t.2 - p0 from nI_clamp (by omega)] at hP hD
  have hP : va_P D jw_cl [(h, .inr (4, [.ref a, .int (nI t.2)])), (a, .inl (cI, 68, .inl (va_cpy f f p0 (p0 + 1) (t.2 - p0))))] H := hP
  have hD : va_D A [(h, .inr (4, [.ref a, .int (nI t.2)])), (a, .inl (cI, 68, .inl (va_cpy f f p0 (p0 + 1) (t.2 - p0))))] := hD
  refine lv_aload_n hx hb d_T_putIn_43 rfl (lv_at hl 0 rfl) ?_
  refine va_get (D := D) (ci := 4) (v := .ref a) (C := jn_T) (T := jf_T) (N := 2) hx hb ht ji_T hown hK hP 0 rfl rfl 0 (by decide) (ht _ k_T_9) (fun _ h9 => h9) rfl d_T_putIn_44 ?_
  refine lv_iload_n hx hb d_T_putIn_47 rfl (lv_at hl 1 rfl) ?_
  refine lv_iload_n hx hb d_T_putIn_48 rfl (lv_at hl 2 rfl) ?_
  refine va_iast hx hb hK hP hD hS 1 0 rfl rfl (vp_in_nI (by omega) (by decide)) d_T_putIn_49 (fun H locs hP hD hS => ?_)
  rw [show (nI p0).toNatClampNeg = p0 from nI_clamp (by omega)] at hP hD
  have hP : va_P D jw_cl [(h, .inr (4, [.ref a, .int (nI t.2)])), (a, .inl (cI, 68, .inl (upd (va_cpy f f p0 (p0 + 1) (t.2 - p0)) p0 (nI c0))))] H := hP
  have hD : va_D A [(h, .inr (4, [.ref a, .int (nI t.2)])), (a, .inl (cI, 68, .inl (upd (va_cpy f f p0 (p0 + 1) (t.2 - p0)) p0 (nI c0))))] := hD
  refine lv_aload_n hx hb d_T_putIn_50 rfl (lv_at hl 0 rfl) ?_
  refine lv_dup hx hb d_T_putIn_51 rfl ?_
  refine va_get (D := D) (ci := 4) (v := .int (nI t.2)) (C := jn_T) (T := jf_T) (N := 2) hx hb ht ji_T hown hK hP 0 rfl rfl 1 (by decide) (ht _ k_T_15) (fun _ h9 => h9) rfl d_T_putIn_52 ?_
  refine lv_iconst (v := nI 1) hx hb d_T_putIn_55 (by decide) ?_
  refine lv_iadd hx hb d_T_putIn_56 ?_
  refine lv_topi (fun v3 ev3 => ?_)
  obtain rfl : v3 = nI (t.2 + 1) := ev3.trans (nI_add _ _)
  refine va_put (D := D) (ci := 4) (v := .int (nI (t.2 + 1))) (ty := .int) (C := jn_T) (T := jf_T) (N := 2) hx hb ht ji_T jy_T jo_T jm_T hown hK hP hD hS 0 rfl rfl 1 (by decide) (ht _ k_T_15) (fun _ h9 => h9) rfl (by decide +kernel) rfl rfl (Nat.le_of_ble_eq_true rfl) d_T_putIn_57 (fun H locs hP hD hS => ?_)
  have hP : va_P D jw_cl [(h, .inr (4, [.ref a, .int (nI (t.2 + 1))])), (a, .inl (cI, 68, .inl (upd (va_cpy f f p0 (p0 + 1) (t.2 - p0)) p0 (nI c0))))] H := hP
  have hD : va_D A [(h, .inr (4, [.ref a, .int (nI (t.2 + 1))])), (a, .inl (cI, 68, .inl (upd (va_cpy f f p0 (p0 + 1) (t.2 - p0)) p0 (nI c0))))] := hD
  exact W.vret hx hb hr (fun t9 ht9 hW9 => ⟨⟨upd (va_cpy f f p0 (p0 + 1) (t.2 - p0)) p0 (nI c0), rfl, jt_rt_put hf hp, by rw [ht9]; exact hP, hD⟩, hS.F ht9⟩) hS.2.2 d_T_putIn_60

set_option maxHeartbeats 4000000 in
set_option maxRecDepth 100000 in
theorem m_T_takeOff (l : Launch) (D : va_G) (sz : Nat) (h a : Nat) (cI : ClassId) (f : Nat → Int32) (t : jt_T) (hf : jt_rt f t) (ht2 : t.2 ≤ 68) (p0 c0 s0 : Nat) (hp : p0 < t.2) : Met l y_T_takeOff w_T_takeOff ({ frames := 1, cells := 0, slots := 0, locals := 21 }) (jw_C [.ref h, .int (nI p0)] D jw_cl [(h, .inr (4, [.ref a, .int (nI t.2)])), (a, .inl (cI, 68, .inl f))] [(cI, .int)] sz) (va_Qv (fun u : Nat → Int32 => jt_rt u (jt_pf t (2, p0, c0, s0))) (jw_B D jw_cl (va_A [(h, .inr (4, [.ref a, .int (nI t.2)])), (a, .inl (cI, 68, .inl f))] sz) (fun u : Nat → Int32 => [(h, .inr (4, [.ref a, .int (nI (t.2 - 1))])), (a, .inl (cI, 68, .inl u))])) (va_A [(h, .inr (4, [.ref a, .int (nI t.2)])), (a, .inl (cI, 68, .inl f))] sz)) 0 0 (va_A [(h, .inr (4, [.ref a, .int (nI t.2)])), (a, .inl (cI, 68, .inl f))] sz) := by
  refine Met.ofW (cc := c_T_takeOff) (maxL := 2) (ret := none) (by decide) rfl ?_
  intro pg0 en0 s m args below meth cd0 s₁ B hml hv
  obtain ⟨rfl, hsz, hP, hK, hD0⟩ := hv
  have hx := B.exec
  have hb := B.bytes
  have hr := B.returns
  have hts := atoms_spec (ws := w_T_takeOff) B.pre
  have ht : ∀ w ∈ jw_tbl, w.before _ s = true := fun w h => hts w (List.mem_cons_of_mem _ h)
  have hown : s.vm.findClass jn_T = some m.cls := findClass_of_methodNamed B.named
  have hlocks := B.notSynchronized
  subst hsz
  have hD := hD0.self (sz := s.heap.size)
  generalize hAe : va_A [(h, .inr (4, [.ref a, .int (nI t.2)])), (a, .inl (cI, 68, .inl f))] s.heap.size = A at hD ⊢
  have hA : ∀ q : Nat, s.heap.size ≤ q → A q := fun q h => by rw [← hAe]; exact Or.inr h
  have hS : va_S A s.heap s.heap [] := va_S.rf
  have hP : va_P D jw_cl [(h, .inr (4, [.ref a, .int (nI t.2)])), (a, .inl (cI, 68, .inl f))] s.heap := hP
  have hl := lv_entry ([.ref h, .int (nI p0)]) (n := 2) (Nat.le_of_ble_eq_true rfl)
  rw [lg_entry_eq]
  generalize (lg_sl ([.ref h, .int (nI p0)]) ++ List.replicate (2 - (lg_sl ([.ref h, .int (nI p0)])).length) Slot.unset).toArray = ls at hl ⊢
  have hl : lv_has ls 2 [(0, .ref h), (1, .int (nI p0))] := hl
  refine lv_aload_n hx hb d_T_takeOff_0 rfl (lv_at hl 0 rfl) ?_
  refine lv_iload_n hx hb d_T_takeOff_1 rfl (lv_at hl 1 rfl) ?_
  refine jw_rV (As := [.int (nI p0)]) (rest := []) hx hb hml hown ht (m_T_has_y l D h a _ p0 (by omega) (by omega)) (o_T_has) k_T_19 rfl rfl ⟨Nat.le_of_ble_eq_true rfl, Nat.le_of_ble_eq_true rfl⟩ (hP.sub [0] rfl) (hK.sub [] rfl) (va_recv (q0 := 0) (ci := 4) hK hP rfl rfl) rfl hl.1 rfl (Nat.le_of_ble_eq_true rfl) d_T_takeOff_2 ⟨Nat.zero_le _, Nat.zero_le _⟩ ?_
  refine lv_if_ne (tgt := 9) hx hb d_T_takeOff_5 (by decide) (fun h5 => ?_) (fun h5 => absurd (jw_eq0 (by omega) h5) (by omega))
  have h5 := jw_ne0 (by omega) h5
  refine lv_aload_n hx hb d_T_takeOff_9 rfl (lv_at hl 0 rfl) ?_
  refine va_get (D := D) (ci := 4) (v := .ref a) (C := jn_T) (T := jf_T) (N := 2) hx hb ht ji_T hown hK hP 0 rfl rfl 0 (by decide) (ht _ k_T_9) (fun _ h9 => h9) rfl d_T_takeOff_10 ?_
  refine lv_iload_n hx hb d_T_takeOff_13 rfl (lv_at hl 1 rfl) ?_
  refine lv_iconst (v := nI 1) hx hb d_T_takeOff_14 (by decide) ?_
  refine lv_iadd hx hb d_T_takeOff_15 ?_
  refine lv_topi (fun v1 ev1 => ?_)
  obtain rfl : v1 = nI (p0 + 1) := ev1.trans (nI_add _ _)
  refine lv_aload_n hx hb d_T_takeOff_16 rfl (lv_at hl 0 rfl) ?_
  refine va_get (D := D) (ci := 4) (v := .ref a) (C := jn_T) (T := jf_T) (N := 2) hx hb ht ji_T hown hK hP 0 rfl rfl 0 (by decide) (ht _ k_T_9) (fun _ h9 => h9) rfl d_T_takeOff_17 ?_
  refine lv_iload_n hx hb d_T_takeOff_20 rfl (lv_at hl 1 rfl) ?_
  refine lv_aload_n hx hb d_T_takeOff_21 rfl (lv_at hl 0 rfl) ?_
  refine va_get (D := D) (ci := 4) (v := .int (nI t.2)) (C := jn_T) (T := jf_T) (N := 2) hx hb ht ji_T hown hK hP 0 rfl rfl 1 (by decide) (ht _ k_T_15) (fun _ h9 => h9) rfl d_T_takeOff_22 ?_
  refine lv_iload_n hx hb d_T_takeOff_25 rfl (lv_at hl 1 rfl) ?_
  refine lv_isub hx hb d_T_takeOff_26 ?_
  refine lv_topi (fun v2 ev2 => ?_)
  obtain rfl : v2 = nI (t.2 - p0) := ev2.trans (pk_sub (by omega))
  refine lv_iconst (v := nI 1) hx hb d_T_takeOff_27 (by decide) ?_
  refine lv_isub hx hb d_T_takeOff_28 ?_
  refine lv_topi (fun v3 ev3 => ?_)
  obtain rfl : v3 = nI ((t.2 - p0) - 1) := ev3.trans (pk_sub (by omega))
  refine va_copyi hx hb (hml.trans hl.1.symm) hown (ht _ k_T_46) (ht _ k_ac_n) (ht _ k_ac_s) (ht _ k_ac_i) hK hP hD hS 1 1 0 0 rfl rfl rfl rfl rfl (nI_pos (by omega)) (nI_pos (by omega)) (nI_pos (by omega)) (by rw [show (nI (p0 + 1)).toNatClampNeg = p0 + 1 from nI_clamp (by omega), show (nI ((t.2 - p0) - 1)).toNatClampNeg = (t.2 - p0) - 1 from nI_clamp (by omega)]; omega) (by rw [show (nI p0).toNatClampNeg = p0 from nI_clamp (by omega), show (nI ((t.2 - p0) - 1)).toNatClampNeg = (t.2 - p0) - 1 from nI_clamp (by omega)]; omega) (fun _ _ => rfl) (Nat.le_of_ble_eq_true rfl) (Nat.le_of_ble_eq_true rfl) d_T_takeOff_29 (fun H locs hP hD hS => ?_)
  try rw [show (nI (p0 + 1)).toNatClampNeg = p0 + 1 from nI_clamp (by omega)] at hP hD
  try rw [show (nI p0).toNatClampNeg = p0 from nI_clamp (by omega)] at hP hD
  try rw [show (nI ((t.2 - p0) - 1)).toNatClampNeg = (t.2 - p0) - 1 from nI_clamp (by omega)] at hP hD
  have hP : va_P D jw_cl [(h, .inr (4, [.ref a, .int (nI t.2)])), (a, .inl (cI, 68, .inl (va_cpy f f (p0 + 1) p0 ((t.2 - p0) - 1))))] H := hP
  have hD : va_D A [(h, .inr (4, [.ref a, .int (nI t.2)])), (a, .inl (cI, 68, .inl (va_cpy f f (p0 + 1) p0 ((t.2 - p0) - 1))))] := hD
  refine lv_aload_n hx hb d_T_takeOff_32 rfl (lv_at hl 0 rfl) ?_
  refine lv_dup hx hb d_T_takeOff_33 rfl ?_
  refine va_get (D := D) (ci := 4) (v := .int (nI t.2)) (C := jn_T) (T := jf_T) (N := 2) hx hb ht ji_T hown hK hP 0 rfl rfl 1 (by decide) (ht _ k_T_15) (fun _ h9 => h9) rfl d_T_takeOff_34 ?_
  refine lv_iconst (v := nI 1) hx hb d_T_takeOff_37 (by decide) ?_
  refine lv_isub hx hb d_T_takeOff_38 ?_
  refine lv_topi (fun v4 ev4 => ?_)
  obtain rfl : v4 = nI (t.2 - 1) := ev4.trans (pk_sub (by omega))
  refine va_put (D := D) (ci := 4) (v := .int (nI (t.2 - 1))) (ty := .int) (C := jn_T) (T := jf_T) (N := 2) hx hb ht ji_T jy_T jo_T jm_T hown hK hP hD hS 0 rfl rfl 1 (by decide) (ht _ k_T_15) (fun _ h9 => h9) rfl (by decide +kernel) rfl rfl (Nat.le_of_ble_eq_true rfl) d_T_takeOff_39 (fun H locs hP hD hS => ?_)
  have hP : va_P D jw_cl [(h, .inr (4, [.ref a, .int (nI (t.2 - 1))])), (a, .inl (cI, 68, .inl (va_cpy f f (p0 + 1) p0 ((t.2 - p0) - 1))))] H := hP
  have hD : va_D A [(h, .inr (4, [.ref a, .int (nI (t.2 - 1))])), (a, .inl (cI, 68, .inl (va_cpy f f (p0 + 1) p0 ((t.2 - p0) - 1))))] := hD
  exact W.vret hx hb hr (fun t9 ht9 hW9 => ⟨⟨va_cpy f f (p0 + 1) p0 ((t.2 - p0) - 1), rfl, jt_rt_off hf hp, by rw [ht9]; exact hP, hD⟩, hS.F ht9⟩) hS.2.2 d_T_takeOff_42

set_option maxHeartbeats 4000000 in
set_option maxRecDepth 100000 in
/-- an op done to a text -/
theorem m_T_perform (l : Launch) (D : va_G) (sz : Nat) (h a : Nat) (cI : ClassId) (f : Nat → Int32) (t : jt_T) (hf : jt_rt f t) (ht2 : t.2 ≤ 68) (o : jt_O) (ho : jt_sm o) (hok : jt_ok t.2 o) (h68 : o.1 = 1 → t.2 < 68) : Met l y_T_perform w_T_perform ({ frames := 2, cells := 0, slots := 0, locals := 42 }) (jw_C [.ref h, .int (nI (jt_po o))] D jw_cl [(h, .inr (4, [.ref a, .int (nI t.2)])), (a, .inl (cI, 68, .inl f))] [(cI, .int)] sz) (va_Qi (fun (r : Int32) (u : Nat → Int32) => r = nI (jt_ch t o) ∧ jt_rt u (jt_pf t o)) (jw_B D jw_cl (va_A [(h, .inr (4, [.ref a, .int (nI t.2)])), (a, .inl (cI, 68, .inl f))] sz) (fun u : Nat → Int32 => [(h, .inr (4, [.ref a, .int (nI ((jt_pf t o).2))])), (a, .inl (cI, 68, .inl u))])) (va_A [(h, .inr (4, [.ref a, .int (nI t.2)])), (a, .inl (cI, 68, .inl f))] sz)) 0 0 (va_A [(h, .inr (4, [.ref a, .int (nI t.2)])), (a, .inl (cI, 68, .inl f))] sz) := by
  refine Met.ofW (cc := c_T_perform) (maxL := 4) (ret := (some .int)) (by decide) rfl ?_
  intro pg0 en0 s m args below meth cd0 s₁ B hml hv
  obtain ⟨rfl, hsz, hP, hK, hD0⟩ := hv
  have hx := B.exec
  have hb := B.bytes
  have hr := B.returns
  have hts := atoms_spec (ws := w_T_perform) B.pre
  have ht : ∀ w ∈ jw_tbl, w.before _ s = true := fun w h => hts w (List.mem_cons_of_mem _ h)
  have hown : s.vm.findClass jn_T = some m.cls := findClass_of_methodNamed B.named
  have hlocks := B.notSynchronized
  subst hsz
  have hD := hD0.self (sz := s.heap.size)
  generalize hAe : va_A [(h, .inr (4, [.ref a, .int (nI t.2)])), (a, .inl (cI, 68, .inl f))] s.heap.size = A at hD ⊢
  have hA : ∀ q : Nat, s.heap.size ≤ q → A q := fun q h => by rw [← hAe]; exact Or.inr h
  have hS : va_S A s.heap s.heap [] := va_S.rf
  have hP : va_P D jw_cl [(h, .inr (4, [.ref a, .int (nI t.2)])), (a, .inl (cI, 68, .inl f))] s.heap := hP
  have hl := lv_entry ([.ref h, .int (nI (jt_po o))]) (n := 4) (Nat.le_of_ble_eq_true rfl)
  rw [lg_entry_eq]
  generalize (lg_sl ([.ref h, .int (nI (jt_po o))]) ++ List.replicate (4 - (lg_sl ([.ref h, .int (nI (jt_po o))])).length) Slot.unset).toArray = ls at hl ⊢
  have hl : lv_has ls 4 [(0, .ref h), (1, .int (nI (jt_po o)))] := hl
  obtain ⟨o1, o2, o3, o4⟩ := id hok
  obtain ⟨q1, q2, q3, q4⟩ := id ho
  refine lv_iload_n hx hb d_T_perform_0 rfl (lv_at hl 1 rfl) ?_
  refine jw_rS (As := [.int (nI (jt_po o))]) (rest := []) hx hb hml hown ht (m_O_positionOf l D o ho) (o_O_positionOf) k_T_23 rfl rfl ⟨Nat.le_of_ble_eq_true rfl, Nat.le_of_ble_eq_true rfl⟩ (hP.sub [] rfl) (hK.sub [] rfl) rfl hl.1 rfl (Nat.le_of_ble_eq_true rfl) d_T_perform_1 ⟨Nat.zero_le _, Nat.zero_le _⟩ ?_
  refine lv_istore_n (lv' := [(2, .int (nI o.2.1)), (0, .ref h), (1, .int (nI (jt_po o)))]) hx hb d_T_perform_4 rfl hl (by decide) rfl (fun ls hl => ?_)
  refine lv_iload_n hx hb d_T_perform_5 rfl (lv_at hl 2 rfl) ?_
  refine jw_rS (As := [.int (nI (jt_po o))]) (rest := []) hx hb hml hown ht (m_O_kindOf l D o ho) (o_O_kindOf) k_T_29 rfl rfl ⟨Nat.le_of_ble_eq_true rfl, Nat.le_of_ble_eq_true rfl⟩ (hP.sub [] rfl) (hK.sub [] rfl) rfl hl.1 rfl (Nat.le_of_ble_eq_true rfl) d_T_perform_6 ⟨Nat.zero_le _, Nat.zero_le _⟩ ?_
  rcases (show o.1 = 1 ∨ o.1 = 2 ∨ o.1 = 0 by omega) with e9 | e9 | e9
  · skip
    refine lv_lookup (off := 27) (tgt := 36) hx hb d_T_perform_9 (by decide) (by rw [e9]; decide) (by decide) ?_
    have o2 := o2 e9
    have ht3 := h68 e9
    refine lv_aload_n hx hb d_T_perform_36 rfl (lv_at hl 1 rfl) ?_
    refine lv_iload_n hx hb d_T_perform_37 rfl (lv_at hl 0 rfl) ?_
    refine lv_iload_n hx hb d_T_perform_38 rfl (lv_at hl 2 rfl) ?_
    refine jw_rS (As := [.int (nI (jt_po o))]) (rest := [.int (nI o.2.1), .ref h]) hx hb hml hown ht (m_O_characterOf l D o ho) (o_O_characterOf) k_T_32 rfl rfl ⟨Nat.le_of_ble_eq_true rfl, Nat.le_of_ble_eq_true rfl⟩ (hP.sub [] rfl) (hK.sub [] rfl) rfl hl.1 rfl (Nat.le_of_ble_eq_true rfl) d_T_perform_39 ⟨Nat.zero_le _, Nat.zero_le _⟩ ?_
    refine jw_jv (ws := [(h, .inr (4, [.ref a, .int (nI t.2)])), (a, .inl (cI, 68, .inl f))]) (wc := [(h, .inr (4, [.ref a, .int (nI t.2)])), (a, .inl (cI, 68, .inl f))]) (wr := []) (jw_uV (As := [.int (nI o.2.1), .int (nI o.2.2.1)]) (rest := []) hx hb hml hown ht (m_T_putIn l D _ h a cI f t hf ht2 o.2.1 o.2.2.1 o.2.2.2 o2 ht3) (o_T_putIn) k_T_35 rfl rfl ⟨Nat.le_of_ble_eq_true rfl, Nat.le_of_ble_eq_true rfl⟩ (hP.sub [0, 1] rfl) (hK.sub [0] rfl) (hD.sub [0, 1] (by decide) rfl) (va_recv (q0 := 0) (ci := 4) hK hP rfl rfl) rfl hl.1 rfl (Nat.le_of_ble_eq_true rfl) d_T_perform_42 ⟨Nat.zero_le _, Nat.zero_le _⟩) hP hD hS hA [0, 1] [] rfl rfl (by decide) (by decide) (fun u1 H locs hu1 hP hD hS => ?_)
    have hP : va_P D jw_cl [(h, .inr (4, [.ref a, .int (nI (t.2 + 1))])), (a, .inl (cI, 68, .inl u1))] H := hP
    have hD : va_D A [(h, .inr (4, [.ref a, .int (nI (t.2 + 1))])), (a, .inl (cI, 68, .inl u1))] := hD
    refine lv_iload_n hx hb d_T_perform_45 rfl (lv_at hl 2 rfl) ?_
    refine jw_rS (As := [.int (nI (jt_po o))]) (rest := []) hx hb hml hown ht (m_O_characterOf l D o ho) (o_O_characterOf) k_T_32 rfl rfl ⟨Nat.le_of_ble_eq_true rfl, Nat.le_of_ble_eq_true rfl⟩ (hP.sub [] rfl) (hK.sub [] rfl) rfl hl.1 rfl (Nat.le_of_ble_eq_true rfl) d_T_perform_46 ⟨Nat.zero_le _, Nat.zero_le _⟩ ?_
    have ep : jt_pf t (1, o.2.1, o.2.2.1, o.2.2.2) = jt_pf t o := by rw [← e9]
    have ec : nI o.2.2.1 = nI (jt_ch t o) := by unfold jt_ch; rw [if_pos e9]
    have en : (jt_pf t o).2 = t.2 + 1 := by rw [jt_pf_ln]; unfold jt_ln; rw [if_pos e9]
    rw [← en] at hP hD
    exact W.iret (v := nI o.2.2.1) hx hb hr (fun t9 ht9 hW9 => ⟨⟨nI o.2.2.1, u1, rfl, ⟨ec, by rw [← ep]; exact hu1⟩, by rw [ht9]; exact hP, hD⟩, hS.F ht9⟩) hS.2.2 d_T_perform_49
  · skip
    refine lv_lookup (off := 41) (tgt := 50) hx hb d_T_perform_9 (by decide) (by rw [e9]; decide) (by decide) ?_
    have o3 := o3 e9
    refine lv_aload_n hx hb d_T_perform_50 rfl (lv_at hl 1 rfl) ?_
    refine lv_iload_n hx hb d_T_perform_51 rfl (lv_at hl 0 rfl) ?_
    refine jw_rV (As := [.int (nI o.2.1)]) (rest := []) hx hb hml hown ht (m_T_at l D h a cI f t hf ht2 o.2.1 o3) (o_T_at) k_T_39 rfl rfl ⟨Nat.le_of_ble_eq_true rfl, Nat.le_of_ble_eq_true rfl⟩ (hP.sub [0, 1] rfl) (hK.sub [0] rfl) (va_recv (q0 := 0) (ci := 4) hK hP rfl rfl) rfl hl.1 rfl (Nat.le_of_ble_eq_true rfl) d_T_perform_52 ⟨Nat.zero_le _, Nat.zero_le _⟩ ?_
    refine lv_istore_n (lv' := [(3, .int (nI (t.1 o.2.1))), (2, .int (nI o.2.1)), (0, .ref h), (1, .int (nI (jt_po o)))]) hx hb d_T_perform_55 rfl hl (by decide) rfl (fun ls hl => ?_)
    refine lv_aload_n hx hb d_T_perform_56 rfl (lv_at hl 2 rfl) ?_
    refine lv_iload_n hx hb d_T_perform_57 rfl (lv_at hl 1 rfl) ?_
    refine jw_jv (ws := [(h, .inr (4, [.ref a, .int (nI t.2)])), (a, .inl (cI, 68, .inl f))]) (wc := [(h, .inr (4, [.ref a, .int (nI t.2)])), (a, .inl (cI, 68, .inl f))]) (wr := []) (jw_uV (As := [.int (nI o.2.1)]) (rest := []) hx hb hml hown ht (m_T_takeOff l D _ h a cI f t hf ht2 o.2.1 o.2.2.1 o.2.2.2 o3) (o_T_takeOff) k_T_42 rfl rfl ⟨Nat.le_of_ble_eq_true rfl, Nat.le_of_ble_eq_true rfl⟩ (hP.sub [0, 1] rfl) (hK.sub [0] rfl) (hD.sub [0, 1] (by decide) rfl) (va_recv (q0 := 0) (ci := 4) hK hP rfl rfl) rfl hl.1 rfl (Nat.le_of_ble_eq_true rfl) d_T_perform_58 ⟨Nat.zero_le _, Nat.zero_le _⟩) hP hD hS hA [0, 1] [] rfl rfl (by decide) (by decide) (fun u3 H locs hu3 hP hD hS => ?_)
    have hP : va_P D jw_cl [(h, .inr (4, [.ref a, .int (nI (t.2 - 1))])), (a, .inl (cI, 68, .inl u3))] H := hP
    have hD : va_D A [(h, .inr (4, [.ref a, .int (nI (t.2 - 1))])), (a, .inl (cI, 68, .inl u3))] := hD
    refine lv_iload_n hx hb d_T_perform_61 rfl (lv_at hl 0 rfl) ?_
    have ep : jt_pf t (2, o.2.1, o.2.2.1, o.2.2.2) = jt_pf t o := by rw [← e9]
    have ec : nI (t.1 o.2.1) = nI (jt_ch t o) := by unfold jt_ch; rw [if_neg (by omega), if_pos e9]
    have en : (jt_pf t o).2 = t.2 - 1 := by rw [jt_pf_ln]; unfold jt_ln; rw [if_neg (by omega), if_pos e9]
    rw [← en] at hP hD
    exact W.iret (v := nI (t.1 o.2.1)) hx hb hr (fun t9 ht9 hW9 => ⟨⟨nI (t.1 o.2.1), u3, rfl, ⟨ec, by rw [← ep]; exact hu3⟩, by rw [ht9]; exact hP, hD⟩, hS.F ht9⟩) hS.2.2 d_T_perform_62
  · skip
    refine lv_lookup (off := 54) (tgt := 63) hx hb d_T_perform_9 (by decide) (by rw [e9]; decide) (by decide) ?_
    refine lv_iconst (v := nI 0) hx hb d_T_perform_63 (by decide) ?_
    have ep : jt_pf t o = t := by unfold jt_pf; rw [if_neg (by omega), if_neg (by omega)]
    have ec : nI 0 = nI (jt_ch t o) := by unfold jt_ch; rw [if_neg (by omega), if_neg (by omega)]
    have en : (jt_pf t o).2 = t.2 := by rw [jt_pf_ln]; unfold jt_ln; rw [if_neg (by omega), if_neg (by omega)]
    rw [← en] at hP hD
    exact W.iret (v := nI 0) hx hb hr (fun t9 ht9 hW9 => ⟨⟨nI 0, f, rfl, ⟨ec, by rw [ep]; exact hf⟩, by rw [ht9]; exact hP, hD⟩, hS.F ht9⟩) hS.2.2 d_T_perform_64
