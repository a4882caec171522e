/-- the rows of the line hold its messages -/
def jt_rm (M : Nat → Nat → Int32) (L : jt_L) : Prop := ∀ k, k < L.2 → M k 0 = nI (L.1 k).1 ∧ M k 1 = nI (L.1 k).2.1 ∧ M k 2 = nI (L.1 k).2.2.1 ∧ M k 3 = nI (L.1 k).2.2.2.1 ∧ M k 4 = nI (jt_po (L.1 k).2.2.2.2.1) ∧ M k 5 = nI (L.1 k).2.2.2.2.2
theorem jt_rm_sd {M M2 : Nat → Nat → Int32} {L : jt_L} {m : jt_M} (h : jt_rm M L) (hL : L.2 < 30) (ho : ∀ k, k ≠ L.2 → M2 k = M k) (h0 : M2 L.2 0 = nI m.1) (h1 : M2 L.2 1 = nI m.2.1) (h2 : M2 L.2 2 = nI m.2.2.1) (h3 : M2 L.2 3 = nI m.2.2.2.1) (h4 : M2 L.2 4 = nI (jt_po m.2.2.2.2.1)) (h5 : M2 L.2 5 = nI m.2.2.2.2.2) : jt_rm M2 (jt_sd L m) := by
  unfold jt_sd
  rw [if_pos hL]
  intro k hk
  have hk : k < L.2 + 1 := hk
  show M2 k 0 = nI (va_up L.1 L.2 m k).1 ∧ M2 k 1 = nI (va_up L.1 L.2 m k).2.1 ∧ M2 k 2 = nI (va_up L.1 L.2 m k).2.2.1 ∧ M2 k 3 = nI (va_up L.1 L.2 m k).2.2.2.1 ∧ M2 k 4 = nI (jt_po (va_up L.1 L.2 m k).2.2.2.2.1) ∧ M2 k 5 = nI (va_up L.1 L.2 m k).2.2.2.2.2
  by_cases e : k = L.2
  · rw [e, va_up_self]
    exact ⟨h0, h1, h2, h3, h4, h5⟩
  · rw [va_up_ne _ _ e, ho k e]
    exact h k (by omega)

set_option maxHeartbeats 4000000 in
set_option maxRecDepth 100000 in
theorem m_L_size (l : Launch) (D : va_G) (nn gg : Nat) (v1 : Int32) : Met l y_L_size w_L_size ({ frames := 0, cells := 0, slots := 0, locals := 0 }) (jw_P [.ref nn] D jw_cl [(nn, .inr (1, [.ref gg, .int v1]))] []) (k2_QcV (.int v1)) 0 0 (fun _ => False) := by
  refine Met.ofW (cc := c_L_size) (maxL := 1) (ret := (some .int)) (by decide) rfl ?_
  intro pg0 en0 s m args below meth cd0 s₁ B hml hv
  obtain ⟨rfl, hP, hK⟩ := hv
  have hx := B.exec
  have hb := B.bytes
  have hr := B.returns
  have hts := atoms_spec (ws := w_L_size) B.pre
  have ht : ∀ w ∈ jw_tbl, w.before _ s = true := fun w h => hts w (List.mem_cons_of_mem _ h)
  have hown : s.vm.findClass jn_L = some m.cls := findClass_of_methodNamed B.named
  have hlocks := B.notSynchronized
  have hl := lv_entry ([.ref nn]) (n := 1) (Nat.le_of_ble_eq_true rfl)
  rw [lg_entry_eq]
  generalize (lg_sl ([.ref nn]) ++ List.replicate (1 - (lg_sl ([.ref nn])).length) Slot.unset).toArray = ls at hl ⊢
  have hl : lv_has ls 1 [(0, .ref nn)] := hl
  refine lv_aload_n hx hb d_L_size_0 rfl (lv_at hl 0 rfl) ?_
  refine va_get (D := D) (ci := 1) (v := .int v1) (C := jn_L) (T := jf_L) (N := 2) hx hb ht ji_L hown hK hP 0 rfl rfl 1 (by decide) (ht _ k_L_16) (fun _ h9 => h9) rfl d_L_size_1 ?_
  exact W.iret (v := v1) hx hb hr (fun t9 ht9 _ => ⟨rfl, ht9⟩) (fun q h => by cases h) d_L_size_4

set_option maxHeartbeats 4000000 in
set_option maxRecDepth 100000 in
theorem m_L_has (l : Launch) (D : va_G) (nn gg : Nat) (v1 : Int32) (x : Int32) : Met l y_L_has w_L_has ({ frames := 0, cells := 0, slots := 0, locals := 0 }) (jw_P [.ref nn, .int x] D jw_cl [(nn, .inr (1, [.ref gg, .int v1]))] []) (k2_QcV (.int (jw_b (decide (¬ x < 0 ∧ ¬ v1 ≤ x))))) 0 0 (fun _ => False) := by
  refine Met.ofW (cc := c_L_has) (maxL := 2) (ret := (some .boolean)) (by decide) rfl ?_
  intro pg0 en0 s m args below meth cd0 s₁ B hml hv
  obtain ⟨rfl, hP, hK⟩ := hv
  have hx := B.exec
  have hb := B.bytes
  have hr := B.returns
  have hts := atoms_spec (ws := w_L_has) B.pre
  have ht : ∀ w ∈ jw_tbl, w.before _ s = true := fun w h => hts w (List.mem_cons_of_mem _ h)
  have hown : s.vm.findClass jn_L = some m.cls := findClass_of_methodNamed B.named
  have hlocks := B.notSynchronized
  have hl := lv_entry ([.ref nn, .int x]) (n := 2) (Nat.le_of_ble_eq_true rfl)
  rw [lg_entry_eq]
  generalize (lg_sl ([.ref nn, .int x]) ++ List.replicate (2 - (lg_sl ([.ref nn, .int x])).length) Slot.unset).toArray = ls at hl ⊢
  have hl : lv_has ls 2 [(0, .ref nn), (1, .int x)] := hl
  refine lv_iload_n hx hb d_L_has_0 rfl (lv_at hl 1 rfl) ?_
  refine lv_if_lt (tgt := 16) hx hb d_L_has_1 (by decide) (fun h1 => ?_) (fun h1 => ?_)
  · skip
    refine lv_iconst (v := nI 0) hx hb d_L_has_16 (by decide) ?_
    exact W.zret (v := nI 0) hx hb hr (by decide) (fun t9 ht9 _ => ⟨congrArg (fun z => Outcome.returned (some (Value.int z))) (by simp [jw_b, *]), ht9⟩) (fun q h => by cases h) d_L_has_17
  · skip
    refine lv_iload_n hx hb d_L_has_4 rfl (lv_at hl 1 rfl) ?_
    refine lv_aload_n hx hb d_L_has_5 rfl (lv_at hl 0 rfl) ?_
    refine va_get (D := D) (ci := 1) (v := .int v1) (C := jn_L) (T := jf_L) (N := 2) hx hb ht ji_L hown hK hP 0 rfl rfl 1 (by decide) (ht _ k_L_16) (fun _ h9 => h9) rfl d_L_has_6 ?_
    refine lv_icmp_ge (tgt := 16) hx hb d_L_has_9 (by decide) (fun h9 => ?_) (fun h9 => ?_)
    · skip
      refine lv_iconst (v := nI 0) hx hb d_L_has_16 (by decide) ?_
      exact W.zret (v := nI 0) hx hb hr (by decide) (fun t9 ht9 _ => ⟨congrArg (fun z => Outcome.returned (some (Value.int z))) (by simp [jw_b, *]), ht9⟩) (fun q h => by cases h) d_L_has_17
    · skip
      refine lv_iconst (v := nI 1) hx hb d_L_has_12 (by decide) ?_
      refine lv_goto (tgt := 17) hx hb d_L_has_13 (by decide) ?_
      exact W.zret (v := nI 1) hx hb hr (by decide) (fun t9 ht9 _ => ⟨congrArg (fun z => Outcome.returned (some (Value.int z))) (by simp [jw_b, *]), ht9⟩) (fun q h => by cases h) d_L_has_17

set_option maxHeartbeats 4000000 in
set_option maxRecDepth 100000 in
theorem m_L_isFull (l : Launch) (D : va_G) (nn gg : Nat) (n : Nat) (hn : n ≤ 30) : Met l y_L_isFull w_L_isFull ({ frames := 0, cells := 0, slots := 0, locals := 0 }) (jw_P [.ref nn] D jw_cl [(nn, .inr (1, [.ref gg, .int (nI n)]))] []) (k2_QcV (.int (jw_b (decide (30 ≤ n))))) 0 0 (fun _ => False) := by
  refine Met.ofW (cc := c_L_isFull) (maxL := 1) (ret := (some .boolean)) (by decide) rfl ?_
  intro pg0 en0 s m args below meth cd0 s₁ B hml hv
  obtain ⟨rfl, hP, hK⟩ := hv
  have hx := B.exec
  have hb := B.bytes
  have hr := B.returns
  have hts := atoms_spec (ws := w_L_isFull) B.pre
  have ht : ∀ w ∈ jw_tbl, w.before _ s = true := fun w h => hts w (List.mem_cons_of_mem _ h)
  have hown : s.vm.findClass jn_L = some m.cls := findClass_of_methodNamed B.named
  have hlocks := B.notSynchronized
  have hl := lv_entry ([.ref nn]) (n := 1) (Nat.le_of_ble_eq_true rfl)
  rw [lg_entry_eq]
  generalize (lg_sl ([.ref nn]) ++ List.replicate (1 - (lg_sl ([.ref nn])).length) Slot.unset).toArray = ls at hl ⊢
  have hl : lv_has ls 1 [(0, .ref nn)] := hl
  refine lv_aload_n hx hb d_L_isFull_0 rfl (lv_at hl 0 rfl) ?_
  refine va_get (D := D) (ci := 1) (v := .int (nI n)) (C := jn_L) (T := jf_L) (N := 2) hx hb ht ji_L hown hK hP 0 rfl rfl 1 (by decide) (ht _ k_L_16) (fun _ h9 => h9) rfl d_L_isFull_1 ?_
  refine lv_bipush (v := nI 30) hx hb d_L_isFull_4 (by decide) ?_
  refine lv_icmp_lt (tgt := 13) hx hb d_L_isFull_6 (by decide) (fun h6 => ?_) (fun h6 => ?_)
  · skip
    have h6 := jw_lt (by omega) (by omega) h6
    refine lv_iconst (v := nI 0) hx hb d_L_isFull_13 (by decide) ?_
    exact W.zret (v := nI 0) hx hb hr (by decide) (fun t9 ht9 _ => ⟨congrArg (fun z => Outcome.returned (some (Value.int z))) (by simp [jw_b]; omega), ht9⟩) (fun q h => by cases h) d_L_isFull_14
  · skip
    have h6 := jw_nlt (by omega) (by omega) h6
    refine lv_iconst (v := nI 1) hx hb d_L_isFull_9 (by decide) ?_
    refine lv_goto (tgt := 14) hx hb d_L_isFull_10 (by decide) ?_
    exact W.zret (v := nI 1) hx hb hr (by decide) (fun t9 ht9 _ => ⟨congrArg (fun z => Outcome.returned (some (Value.int z))) (by simp [jw_b]; omega), ht9⟩) (fun q h => by cases h) d_L_isFull_14

set_option maxHeartbeats 4000000 in
set_option maxRecDepth 100000 in
theorem m_L_kindAt (l : Launch) (D : va_G) (nn gg : Nat) (ad : Nat → Nat) (cI cG : ClassId) (M : Nat → Nat → Int32) (v1 : Int32) (k : Nat) (hk : k < 30) : Met l y_L_kindAt w_L_kindAt ({ frames := 0, cells := 0, slots := 0, locals := 0 }) (jw_P [.ref nn, .int (nI k)] D jw_cl (([(nn, .inr (1, [.ref gg, .int v1])), (gg, .inl (cG, 30, .inr (.inr (.inr (.inr (jx_o ad))))))] : va_W) ++ jx_r ad cI M) [(cI, .int), (cG, .array .int)]) (k2_QcV (.int (M k 0))) 0 0 (fun _ => False) := by
  refine Met.ofW (cc := c_L_kindAt) (maxL := 2) (ret := (some .int)) (by decide) rfl ?_
  intro pg0 en0 s m args below meth cd0 s₁ B hml hv
  obtain ⟨rfl, hP, hK⟩ := hv
  have hx := B.exec
  have hb := B.bytes
  have hr := B.returns
  have hts := atoms_spec (ws := w_L_kindAt) B.pre
  have ht : ∀ w ∈ jw_tbl, w.before _ s = true := fun w h => hts w (List.mem_cons_of_mem _ h)
  have hown : s.vm.findClass jn_L = some m.cls := findClass_of_methodNamed B.named
  have hlocks := B.notSynchronized
  have hl := lv_entry ([.ref nn, .int (nI k)]) (n := 2) (Nat.le_of_ble_eq_true rfl)
  rw [lg_entry_eq]
  generalize (lg_sl ([.ref nn, .int (nI k)]) ++ List.replicate (2 - (lg_sl ([.ref nn, .int (nI k)])).length) Slot.unset).toArray = ls at hl ⊢
  have hl : lv_has ls 2 [(0, .ref nn), (1, .int (nI k))] := hl
  refine lv_aload_n hx hb d_L_kindAt_0 rfl (lv_at hl 0 rfl) ?_
  refine va_get (D := D) (ci := 1) (v := .ref gg) (C := jn_L) (T := jf_L) (N := 2) hx hb ht ji_L hown hK hP 0 rfl rfl 0 (by decide) (ht _ k_L_13) (fun _ h9 => h9) rfl d_L_kindAt_1 ?_
  refine lv_iload_n hx hb d_L_kindAt_4 rfl (lv_at hl 1 rfl) ?_
  refine jw_ald (v := .ref (ad k)) hx hb hK hP 1 1 rfl rfl rfl (vp_in_nI (by omega) (by decide)) (by rw [show (nI k).toNatClampNeg = k from nI_clamp (by omega)]; exact jx_rf (by omega)) d_L_kindAt_5 ?_
  refine lv_iconst (v := nI 0) hx hb d_L_kindAt_6 (by decide) ?_
  refine va_iald hx hb hK hP (2 + k) 0 (jx_at rfl (by omega)) rfl (vp_in_nI (by omega) (by decide)) d_L_kindAt_7 ?_
  rw [show (nI 0).toNatClampNeg = 0 from nI_clamp (by omega)]
  exact W.iret (v := M k 0) hx hb hr (fun t9 ht9 _ => ⟨rfl, ht9⟩) (fun q h => by cases h) d_L_kindAt_8

set_option maxHeartbeats 4000000 in
set_option maxRecDepth 100000 in
theorem m_L_clientAt (l : Launch) (D : va_G) (nn gg : Nat) (ad : Nat → Nat) (cI cG : ClassId) (M : Nat → Nat → Int32) (v1 : Int32) (k : Nat) (hk : k < 30) : Met l y_L_clientAt w_L_clientAt ({ frames := 0, cells := 0, slots := 0, locals := 0 }) (jw_P [.ref nn, .int (nI k)] D jw_cl (([(nn, .inr (1, [.ref gg, .int v1])), (gg, .inl (cG, 30, .inr (.inr (.inr (.inr (jx_o ad))))))] : va_W) ++ jx_r ad cI M) [(cI, .int), (cG, .array .int)]) (k2_QcV (.int (M k 1))) 0 0 (fun _ => False) := by
  refine Met.ofW (cc := c_L_clientAt) (maxL := 2) (ret := (some .int)) (by decide) rfl ?_
  intro pg0 en0 s m args below meth cd0 s₁ B hml hv
  obtain ⟨rfl, hP, hK⟩ := hv
  have hx := B.exec
  have hb := B.bytes
  have hr := B.returns
  have hts := atoms_spec (ws := w_L_clientAt) B.pre
  have ht : ∀ w ∈ jw_tbl, w.before _ s = true := fun w h => hts w (List.mem_cons_of_mem _ h)
  have hown : s.vm.findClass jn_L = some m.cls := findClass_of_methodNamed B.named
  have hlocks := B.notSynchronized
  have hl := lv_entry ([.ref nn, .int (nI k)]) (n := 2) (Nat.le_of_ble_eq_true rfl)
  rw [lg_entry_eq]
  generalize (lg_sl ([.ref nn, .int (nI k)]) ++ List.replicate (2 - (lg_sl ([.ref nn, .int (nI k)])).length) Slot.unset).toArray = ls at hl ⊢
  have hl : lv_has ls 2 [(0, .ref nn), (1, .int (nI k))] := hl
  refine lv_aload_n hx hb d_L_clientAt_0 rfl (lv_at hl 0 rfl) ?_
  refine va_get (D := D) (ci := 1) (v := .ref gg) (C := jn_L) (T := jf_L) (N := 2) hx hb ht ji_L hown hK hP 0 rfl rfl 0 (by decide) (ht _ k_L_13) (fun _ h9 => h9) rfl d_L_clientAt_1 ?_
  refine lv_iload_n hx hb d_L_clientAt_4 rfl (lv_at hl 1 rfl) ?_
  refine jw_ald (v := .ref (ad k)) hx hb hK hP 1 1 rfl rfl rfl (vp_in_nI (by omega) (by decide)) (by rw [show (nI k).toNatClampNeg = k from nI_clamp (by omega)]; exact jx_rf (by omega)) d_L_clientAt_5 ?_
  refine lv_iconst (v := nI 1) hx hb d_L_clientAt_6 (by decide) ?_
  refine va_iald hx hb hK hP (2 + k) 0 (jx_at rfl (by omega)) rfl (vp_in_nI (by omega) (by decide)) d_L_clientAt_7 ?_
  rw [show (nI 1).toNatClampNeg = 1 from nI_clamp (by omega)]
  exact W.iret (v := M k 1) hx hb hr (fun t9 ht9 _ => ⟨rfl, ht9⟩) (fun q h => by cases h) d_L_clientAt_8

set_option maxHeartbeats 4000000 in
set_option maxRecDepth 100000 in
theorem m_L_revisionAt (l : Launch) (D : va_G) (nn gg : Nat) (ad : Nat → Nat) (cI cG : ClassId) (M : Nat → Nat → Int32) (v1 : Int32) (k : Nat) (hk : k < 30) : Met l y_L_revisionAt w_L_revisionAt ({ frames := 0, cells := 0, slots := 0, locals := 0 }) (jw_P [.ref nn, .int (nI k)] D jw_cl (([(nn, .inr (1, [.ref gg, .int v1])), (gg, .inl (cG, 30, .inr (.inr (.inr (.inr (jx_o ad))))))] : va_W) ++ jx_r ad cI M) [(cI, .int), (cG, .array .int)]) (k2_QcV (.int (M k 2))) 0 0 (fun _ => False) := by
  refine Met.ofW (cc := c_L_revisionAt) (maxL := 2) (ret := (some .int)) (by decide) rfl ?_
  intro pg0 en0 s m args below meth cd0 s₁ B hml hv
  obtain ⟨rfl, hP, hK⟩ := hv
  have hx := B.exec
  have hb := B.bytes
  have hr := B.returns
  have hts := atoms_spec (ws := w_L_revisionAt) B.pre
  have ht : ∀ w ∈ jw_tbl, w.before _ s = true := fun w h => hts w (List.mem_cons_of_mem _ h)
  have hown : s.vm.findClass jn_L = some m.cls := findClass_of_methodNamed B.named
  have hlocks := B.notSynchronized
  have hl := lv_entry ([.ref nn, .int (nI k)]) (n := 2) (Nat.le_of_ble_eq_true rfl)
  rw [lg_entry_eq]
  generalize (lg_sl ([.ref nn, .int (nI k)]) ++ List.replicate (2 - (lg_sl ([.ref nn, .int (nI k)])).length) Slot.unset).toArray = ls at hl ⊢
  have hl : lv_has ls 2 [(0, .ref nn), (1, .int (nI k))] := hl
  refine lv_aload_n hx hb d_L_revisionAt_0 rfl (lv_at hl 0 rfl) ?_
  refine va_get (D := D) (ci := 1) (v := .ref gg) (C := jn_L) (T := jf_L) (N := 2) hx hb ht ji_L hown hK hP 0 rfl rfl 0 (by decide) (ht _ k_L_13) (fun _ h9 => h9) rfl d_L_revisionAt_1 ?_
  refine lv_iload_n hx hb d_L_revisionAt_4 rfl (lv_at hl 1 rfl) ?_
  refine jw_ald (v := .ref (ad k)) hx hb hK hP 1 1 rfl rfl rfl (vp_in_nI (by omega) (by decide)) (by rw [show (nI k).toNatClampNeg = k from nI_clamp (by omega)]; exact jx_rf (by omega)) d_L_revisionAt_5 ?_
  refine lv_iconst (v := nI 2) hx hb d_L_revisionAt_6 (by decide) ?_
  refine va_iald hx hb hK hP (2 + k) 0 (jx_at rfl (by omega)) rfl (vp_in_nI (by omega) (by decide)) d_L_revisionAt_7 ?_
  rw [show (nI 2).toNatClampNeg = 2 from nI_clamp (by omega)]
  exact W.iret (v := M k 2) hx hb hr (fun t9 ht9 _ => ⟨rfl, ht9⟩) (fun q h => by cases h) d_L_revisionAt_8

set_option maxHeartbeats 4000000 in
set_option maxRecDepth 100000 in
theorem m_L_numberAt (l : Launch) (D : va_G) (nn gg : Nat) (ad : Nat → Nat) (cI cG : ClassId) (M : Nat → Nat → Int32) (v1 : Int32) (k : Nat) (hk : k < 30) : Met l y_L_numberAt w_L_numberAt ({ frames := 0, cells := 0, slots := 0, locals := 0 }) (jw_P [.ref nn, .int (nI k)] D jw_cl (([(nn, .inr (1, [.ref gg, .int v1])), (gg, .inl (cG, 30, .inr (.inr (.inr (.inr (jx_o ad))))))] : va_W) ++ jx_r ad cI M) [(cI, .int), (cG, .array .int)]) (k2_QcV (.int (M k 3))) 0 0 (fun _ => False) := by
  refine Met.ofW (cc := c_L_numberAt) (maxL := 2) (ret := (some .int)) (by decide) rfl ?_
  intro pg0 en0 s m args below meth cd0 s₁ B hml hv
  obtain ⟨rfl, hP, hK⟩ := hv
  have hx := B.exec
  have hb := B.bytes
  have hr := B.returns
  have hts := atoms_spec (ws := w_L_numberAt) B.pre
  have ht : ∀ w ∈ jw_tbl, w.before _ s = true := fun w h => hts w (List.mem_cons_of_mem _ h)
  have hown : s.vm.findClass jn_L = some m.cls := findClass_of_methodNamed B.named
  have hlocks := B.notSynchronized
  have hl := lv_entry ([.ref nn, .int (nI k)]) (n := 2) (Nat.le_of_ble_eq_true rfl)
  rw [lg_entry_eq]
  generalize (lg_sl ([.ref nn, .int (nI k)]) ++ List.replicate (2 - (lg_sl ([.ref nn, .int (nI k)])).length) Slot.unset).toArray = ls at hl ⊢
  have hl : lv_has ls 2 [(0, .ref nn), (1, .int (nI k))] := hl
  refine lv_aload_n hx hb d_L_numberAt_0 rfl (lv_at hl 0 rfl) ?_
  refine va_get (D := D) (ci := 1) (v := .ref gg) (C := jn_L) (T := jf_L) (N := 2) hx hb ht ji_L hown hK hP 0 rfl rfl 0 (by decide) (ht _ k_L_13) (fun _ h9 => h9) rfl d_L_numberAt_1 ?_
  refine lv_iload_n hx hb d_L_numberAt_4 rfl (lv_at hl 1 rfl) ?_
  refine jw_ald (v := .ref (ad k)) hx hb hK hP 1 1 rfl rfl rfl (vp_in_nI (by omega) (by decide)) (by rw [show (nI k).toNatClampNeg = k from nI_clamp (by omega)]; exact jx_rf (by omega)) d_L_numberAt_5 ?_
  refine lv_iconst (v := nI 3) hx hb d_L_numberAt_6 (by decide) ?_
  refine va_iald hx hb hK hP (2 + k) 0 (jx_at rfl (by omega)) rfl (vp_in_nI (by omega) (by decide)) d_L_numberAt_7 ?_
  rw [show (nI 3).toNatClampNeg = 3 from nI_clamp (by omega)]
  exact W.iret (v := M k 3) hx hb hr (fun t9 ht9 _ => ⟨rfl, ht9⟩) (fun q h => by cases h) d_L_numberAt_8

set_option maxHeartbeats 4000000 in
set_option maxRecDepth 100000 in
theorem m_L_opAt (l : Launch) (D : va_G) (nn gg : Nat) (ad : Nat → Nat) (cI cG : ClassId) (M : Nat → Nat → Int32) (v1 : Int32) (k : Nat) (hk : k < 30) : Met l y_L_opAt w_L_opAt ({ frames := 0, cells := 0, slots := 0, locals := 0 }) (jw_P [.ref nn, .int (nI k)] D jw_cl (([(nn, .inr (1, [.ref gg, .int v1])), (gg, .inl (cG, 30, .inr (.inr (.inr (.inr (jx_o ad))))))] : va_W) ++ jx_r ad cI M) [(cI, .int), (cG, .array .int)]) (k2_QcV (.int (M k 4))) 0 0 (fun _ => False) := by
  refine Met.ofW (cc := c_L_opAt) (maxL := 2) (ret := (some .int)) (by decide) rfl ?_
  intro pg0 en0 s m args below meth cd0 s₁ B hml hv
  obtain ⟨rfl, hP, hK⟩ := hv
  have hx := B.exec
  have hb := B.bytes
  have hr := B.returns
  have hts := atoms_spec (ws := w_L_opAt) B.pre
  have ht : ∀ w ∈ jw_tbl, w.before _ s = true := fun w h => hts w (List.mem_cons_of_mem _ h)
  have hown : s.vm.findClass jn_L = some m.cls := findClass_of_methodNamed B.named
  have hlocks := B.notSynchronized
  have hl := lv_entry ([.ref nn, .int (nI k)]) (n := 2) (Nat.le_of_ble_eq_true rfl)
  rw [lg_entry_eq]
  generalize (lg_sl ([.ref nn, .int (nI k)]) ++ List.replicate (2 - (lg_sl ([.ref nn, .int (nI k)])).length) Slot.unset).toArray = ls at hl ⊢
  have hl : lv_has ls 2 [(0, .ref nn), (1, .int (nI k))] := hl
  refine lv_aload_n hx hb d_L_opAt_0 rfl (lv_at hl 0 rfl) ?_
  refine va_get (D := D) (ci := 1) (v := .ref gg) (C := jn_L) (T := jf_L) (N := 2) hx hb ht ji_L hown hK hP 0 rfl rfl 0 (by decide) (ht _ k_L_13) (fun _ h9 => h9) rfl d_L_opAt_1 ?_
  refine lv_iload_n hx hb d_L_opAt_4 rfl (lv_at hl 1 rfl) ?_
  refine jw_ald (v := .ref (ad k)) hx hb hK hP 1 1 rfl rfl rfl (vp_in_nI (by omega) (by decide)) (by rw [show (nI k).toNatClampNeg = k from nI_clamp (by omega)]; exact jx_rf (by omega)) d_L_opAt_5 ?_
  refine lv_iconst (v := nI 4) hx hb d_L_opAt_6 (by decide) ?_
  refine va_iald hx hb hK hP (2 + k) 0 (jx_at rfl (by omega)) rfl (vp_in_nI (by omega) (by decide)) d_L_opAt_7 ?_
  rw [show (nI 4).toNatClampNeg = 4 from nI_clamp (by omega)]
  exact W.iret (v := M k 4) hx hb hr (fun t9 ht9 _ => ⟨rfl, ht9⟩) (fun q h => by cases h) d_L_opAt_8

set_option maxHeartbeats 4000000 in
set_option maxRecDepth 100000 in
theorem m_L_isWhole (l : Launch) (D : va_G) (nn gg : Nat) (ad : Nat → Nat) (cI cG : ClassId) (M : Nat → Nat → Int32) (v1 : Int32) (k : Nat) (hk : k < 30) : Met l y_L_isWhole w_L_isWhole ({ frames := 0, cells := 0, slots := 0, locals := 0 }) (jw_P [.ref nn, .int (nI k)] D jw_cl (([(nn, .inr (1, [.ref gg, .int v1])), (gg, .inl (cG, 30, .inr (.inr (.inr (.inr (jx_o ad))))))] : va_W) ++ jx_r ad cI M) [(cI, .int), (cG, .array .int)]) (k2_QcV (.int (jw_b (decide (M k 5 = 0))))) 0 0 (fun _ => False) := by
  refine Met.ofW (cc := c_L_isWhole) (maxL := 2) (ret := (some .boolean)) (by decide) rfl ?_
  intro pg0 en0 s m args below meth cd0 s₁ B hml hv
  obtain ⟨rfl, hP, hK⟩ := hv
  have hx := B.exec
  have hb := B.bytes
  have hr := B.returns
  have hts := atoms_spec (ws := w_L_isWhole) B.pre
  have ht : ∀ w ∈ jw_tbl, w.before _ s = true := fun w h => hts w (List.mem_cons_of_mem _ h)
  have hown : s.vm.findClass jn_L = some m.cls := findClass_of_methodNamed B.named
  have hlocks := B.notSynchronized
  have hl := lv_entry ([.ref nn, .int (nI k)]) (n := 2) (Nat.le_of_ble_eq_true rfl)
  rw [lg_entry_eq]
  generalize (lg_sl ([.ref nn, .int (nI k)]) ++ List.replicate (2 - (lg_sl ([.ref nn, .int (nI k)])).length) Slot.unset).toArray = ls at hl ⊢
  have hl : lv_has ls 2 [(0, .ref nn), (1, .int (nI k))] := hl
  refine lv_aload_n hx hb d_L_isWhole_0 rfl (lv_at hl 0 rfl) ?_
  refine va_get (D := D) (ci := 1) (v := .ref gg) (C := jn_L) (T := jf_L) (N := 2) hx hb ht ji_L hown hK hP 0 rfl rfl 0 (by decide) (ht _ k_L_13) (fun _ h9 => h9) rfl d_L_isWhole_1 ?_
  refine lv_iload_n hx hb d_L_isWhole_4 rfl (lv_at hl 1 rfl) ?_
  refine jw_ald (v := .ref (ad k)) hx hb hK hP 1 1 rfl rfl rfl (vp_in_nI (by omega) (by decide)) (by rw [show (nI k).toNatClampNeg = k from nI_clamp (by omega)]; exact jx_rf (by omega)) d_L_isWhole_5 ?_
  refine lv_iconst (v := nI 5) hx hb d_L_isWhole_6 (by decide) ?_
  refine va_iald hx hb hK hP (2 + k) 0 (jx_at rfl (by omega)) rfl (vp_in_nI (by omega) (by decide)) d_L_isWhole_7 ?_
  rw [show (nI 5).toNatClampNeg = 5 from nI_clamp (by omega)]
  refine lv_if_ne (tgt := 15) hx hb d_L_isWhole_8 (by decide) (fun h8 => ?_) (fun h8 => ?_)
  · skip
    refine lv_iconst (v := nI 0) hx hb d_L_isWhole_15 (by decide) ?_
    exact W.zret (v := nI 0) hx hb hr (by decide) (fun t9 ht9 _ => ⟨congrArg (fun z => Outcome.returned (some (Value.int z))) (by simp [jw_b, *]), ht9⟩) (fun q h => by cases h) d_L_isWhole_16
  · skip
    refine lv_iconst (v := nI 1) hx hb d_L_isWhole_11 (by decide) ?_
    refine lv_goto (tgt := 16) hx hb d_L_isWhole_12 (by decide) ?_
    exact W.zret (v := nI 1) hx hb hr (by decide) (fun t9 ht9 _ => ⟨congrArg (fun z => Outcome.returned (some (Value.int z))) (by simp [jw_b, *]), ht9⟩) (fun q h => by cases h) d_L_isWhole_16

set_option maxHeartbeats 4000000 in
set_option maxRecDepth 100000 in
theorem m_L_copy (l : Launch) (D : va_G) (sz : Nat) (nn gg : Nat) (ad : Nat → Nat) (cI cG : ClassId) (M : Nat → Nat → Int32) (n i j : Nat) (hi : i < 30) (hj : j < 30) : Met l y_L_copy w_L_copy ({ frames := 1, cells := 0, slots := 0, locals := 18 }) (jw_C [.ref nn, .int (nI i), .int (nI j)] D jw_cl (([(nn, .inr (1, [.ref gg, .int (nI n)])), (gg, .inl (cG, 30, .inr (.inr (.inr (.inr (jx_o ad))))))] : va_W) ++ jx_r ad cI M) [(cI, .int), (cG, .array .int)] sz) (va_Qv (fun u : Nat → Nat → Int32 => u = va_up M j (va_cpy (M i) (M j) 0 0 6)) (jw_B D jw_cl (va_A (([(nn, .inr (1, [.ref gg, .int (nI n)])), (gg, .inl (cG, 30, .inr (.inr (.inr (.inr (jx_o ad))))))] : va_W) ++ jx_r ad cI M) sz) (fun u : Nat → Nat → Int32 => ([(nn, .inr (1, [.ref gg, .int (nI n)])), (gg, .inl (cG, 30, .inr (.inr (.inr (.inr (jx_o ad))))))] : va_W) ++ jx_r ad cI u)) (va_A (([(nn, .inr (1, [.ref gg, .int (nI n)])), (gg, .inl (cG, 30, .inr (.inr (.inr (.inr (jx_o ad))))))] : va_W) ++ jx_r ad cI M) sz)) 0 0 (va_A (([(nn, .inr (1, [.ref gg, .int (nI n)])), (gg, .inl (cG, 30, .inr (.inr (.inr (.inr (jx_o ad))))))] : va_W) ++ jx_r ad cI M) sz) := by
  refine Met.ofW (cc := c_L_copy) (maxL := 3) (ret := none) (by decide) rfl ?_
  intro pg0 en0 s m args below meth cd0 s₁ B hml hv
  obtain ⟨rfl, hsz, hP, hK, hD0⟩ := hv
  have hx := B.exec
  have hb := B.bytes
  have hr := B.returns
  have hts := atoms_spec (ws := w_L_copy) B.pre
  have ht : ∀ w ∈ jw_tbl, w.before _ s = true := fun w h => hts w (List.mem_cons_of_mem _ h)
  have hown : s.vm.findClass jn_L = some m.cls := findClass_of_methodNamed B.named
  have hlocks := B.notSynchronized
  subst hsz
  have hD := hD0.self (sz := s.heap.size)
  generalize hAe : va_A (([(nn, .inr (1, [.ref gg, .int (nI n)])), (gg, .inl (cG, 30, .inr (.inr (.inr (.inr (jx_o ad))))))] : va_W) ++ jx_r ad cI M) s.heap.size = A at hD ⊢
  have hA : ∀ q : Nat, s.heap.size ≤ q → A q := fun q h => by rw [← hAe]; exact Or.inr h
  have hS : va_S A s.heap s.heap [] := va_S.rf
  have hP : va_P D jw_cl (([(nn, .inr (1, [.ref gg, .int (nI n)])), (gg, .inl (cG, 30, .inr (.inr (.inr (.inr (jx_o ad))))))] : va_W) ++ jx_r ad cI M) s.heap := hP
  have hl := lv_entry ([.ref nn, .int (nI i), .int (nI j)]) (n := 3) (Nat.le_of_ble_eq_true rfl)
  rw [lg_entry_eq]
  generalize (lg_sl ([.ref nn, .int (nI i), .int (nI j)]) ++ List.replicate (3 - (lg_sl ([.ref nn, .int (nI i), .int (nI j)])).length) Slot.unset).toArray = ls at hl ⊢
  have hl : lv_has ls 3 [(0, .ref nn), (1, .int (nI i)), (2, .int (nI j))] := hl
  refine lv_aload_n hx hb d_L_copy_0 rfl (lv_at hl 0 rfl) ?_
  refine va_get (D := D) (ci := 1) (v := .ref gg) (C := jn_L) (T := jf_L) (N := 2) hx hb ht ji_L hown hK hP 0 rfl rfl 0 (by decide) (ht _ k_L_13) (fun _ h9 => h9) rfl d_L_copy_1 ?_
  refine lv_iload_n hx hb d_L_copy_4 rfl (lv_at hl 1 rfl) ?_
  refine jw_ald (v := .ref (ad i)) hx hb hK hP 1 1 rfl rfl rfl (vp_in_nI (by omega) (by decide)) (by rw [show (nI i).toNatClampNeg = i from nI_clamp (by omega)]; exact jx_rf (by omega)) d_L_copy_5 ?_
  refine lv_iconst (v := nI 0) hx hb d_L_copy_6 (by decide) ?_
  refine lv_aload_n hx hb d_L_copy_7 rfl (lv_at hl 0 rfl) ?_
  refine va_get (D := D) (ci := 1) (v := .ref gg) (C := jn_L) (T := jf_L) (N := 2) hx hb ht ji_L hown hK hP 0 rfl rfl 0 (by decide) (ht _ k_L_13) (fun _ h9 => h9) rfl d_L_copy_8 ?_
  refine lv_iload_n hx hb d_L_copy_11 rfl (lv_at hl 2 rfl) ?_
  refine jw_ald (v := .ref (ad j)) hx hb hK hP 1 1 rfl rfl rfl (vp_in_nI (by omega) (by decide)) (by rw [show (nI j).toNatClampNeg = j from nI_clamp (by omega)]; exact jx_rf (by omega)) d_L_copy_12 ?_
  refine lv_iconst (v := nI 0) hx hb d_L_copy_13 (by decide) ?_
  refine lv_bipush (v := nI 6) hx hb d_L_copy_14 (by decide) ?_
  refine va_copyi hx hb (hml.trans hl.1.symm) hown (ht _ k_L_28) (ht _ k_ac_n) (ht _ k_ac_s) (ht _ k_ac_i) hK hP hD hS (2 + i) (2 + j) 0 0 (jx_at rfl (by omega)) (jx_at rfl (by omega)) rfl rfl rfl (nI_pos (by omega)) (nI_pos (by omega)) (nI_pos (by omega)) (by rw [show (nI 0).toNatClampNeg = 0 from nI_clamp (by omega), show (nI 6).toNatClampNeg = 6 from nI_clamp (by omega)]; omega) (by rw [show (nI 0).toNatClampNeg = 0 from nI_clamp (by omega), show (nI 6).toNatClampNeg = 6 from nI_clamp (by omega)]; omega) (fun _ _ => rfl) (Nat.le_of_ble_eq_true rfl) (Nat.le_of_ble_eq_true rfl) d_L_copy_16 (fun H locs hP hD hS => ?_)
  rw [show (nI 0).toNatClampNeg = 0 from nI_clamp (by omega), show (nI 6).toNatClampNeg = 6 from nI_clamp (by omega), jx_set (X := [(nn, .inr (1, [.ref gg, .int (nI n)])), (gg, .inl (cG, 30, .inr (.inr (.inr (.inr (jx_o ad))))))]) (n := 2) (k := j) rfl (by omega)] at hP hD
  generalize hM1 : va_up M j (va_cpy (M i) (M j) 0 0 6) = M1 at hP hD
  exact W.vret hx hb hr (fun t9 ht9 hW9 => ⟨⟨M1, rfl, by first | rfl | exact hM1.symm, by rw [ht9]; exact hP, hD⟩, hS.F ht9⟩) hS.2.2 d_L_copy_19

set_option maxHeartbeats 4000000 in
set_option maxRecDepth 100000 in
theorem m_L_send (l : Launch) (D : va_G) (sz : Nat) (nn gg : Nat) (ad : Nat → Nat) (cI cG : ClassId) (M : Nat → Nat → Int32) (L0 : jt_L) (hM : jt_rm M L0) (hL30 : L0.2 ≤ 30) (kd cl rv nm : Nat) (o : jt_O) : Met l y_L_send w_L_send ({ frames := 1, cells := 0, slots := 0, locals := 20 }) (jw_C [.ref nn, .int (nI kd), .int (nI cl), .int (nI rv), .int (nI (jt_po o)), .int (nI nm)] D jw_cl (([(nn, .inr (1, [.ref gg, .int (nI L0.2)])), (gg, .inl (cG, 30, .inr (.inr (.inr (.inr (jx_o ad))))))] : va_W) ++ jx_r ad cI M) [(cI, .int), (cG, .array .int)] sz) (va_Qv (fun u : Nat → Nat → Int32 => jt_rm u (jt_sd L0 (kd, cl, rv, nm, o, 0))) (jw_B D jw_cl (va_A (([(nn, .inr (1, [.ref gg, .int (nI L0.2)])), (gg, .inl (cG, 30, .inr (.inr (.inr (.inr (jx_o ad))))))] : va_W) ++ jx_r ad cI M) sz) (fun u : Nat → Nat → Int32 => ([(nn, .inr (1, [.ref gg, .int (nI ((jt_sd L0 (kd, cl, rv, nm, o, 0)).2))])), (gg, .inl (cG, 30, .inr (.inr (.inr (.inr (jx_o ad))))))] : va_W) ++ jx_r ad cI u)) (va_A (([(nn, .inr (1, [.ref gg, .int (nI L0.2)])), (gg, .inl (cG, 30, .inr (.inr (.inr (.inr (jx_o ad))))))] : va_W) ++ jx_r ad cI M) sz)) 0 0 (va_A (([(nn, .inr (1, [.ref gg, .int (nI L0.2)])), (gg, .inl (cG, 30, .inr (.inr (.inr (.inr (jx_o ad))))))] : va_W) ++ jx_r ad cI M) sz) := by
  refine Met.ofW (cc := c_L_send) (maxL := 7) (ret := none) (by decide) rfl ?_
  intro pg0 en0 s m args below meth cd0 s₁ B hml hv
  obtain ⟨rfl, hsz, hP, hK, hD0⟩ := hv
  have hx := B.exec
  have hb := B.bytes
  have hr := B.returns
  have hts := atoms_spec (ws := w_L_send) B.pre
  have ht : ∀ w ∈ jw_tbl, w.before _ s = true := fun w h => hts w (List.mem_cons_of_mem _ h)
  have hown : s.vm.findClass jn_L = some m.cls := findClass_of_methodNamed B.named
  have hlocks := B.notSynchronized
  subst hsz
  have hD := hD0.self (sz := s.heap.size)
  generalize hAe : va_A (([(nn, .inr (1, [.ref gg, .int (nI L0.2)])), (gg, .inl (cG, 30, .inr (.inr (.inr (.inr (jx_o ad))))))] : va_W) ++ jx_r ad cI M) s.heap.size = A at hD ⊢
  have hA : ∀ q : Nat, s.heap.size ≤ q → A q := fun q h => by rw [← hAe]; exact Or.inr h
  have hS : va_S A s.heap s.heap [] := va_S.rf
  have hP : va_P D jw_cl (([(nn, .inr (1, [.ref gg, .int (nI L0.2)])), (gg, .inl (cG, 30, .inr (.inr (.inr (.inr (jx_o ad))))))] : va_W) ++ jx_r ad cI M) s.heap := hP
  have hl := lv_entry ([.ref nn, .int (nI kd), .int (nI cl), .int (nI rv), .int (nI (jt_po o)), .int (nI nm)]) (n := 7) (Nat.le_of_ble_eq_true rfl)
  rw [lg_entry_eq]
  generalize (lg_sl ([.ref nn, .int (nI kd), .int (nI cl), .int (nI rv), .int (nI (jt_po o)), .int (nI nm)]) ++ List.replicate (7 - (lg_sl ([.ref nn, .int (nI kd), .int (nI cl), .int (nI rv), .int (nI (jt_po o)), .int (nI nm)])).length) Slot.unset).toArray = ls at hl ⊢
  have hl : lv_has ls 7 [(0, .ref nn), (1, .int (nI kd)), (2, .int (nI cl)), (3, .int (nI rv)), (4, .int (nI (jt_po o))), (5, .int (nI nm))] := hl
  refine lv_aload_n hx hb d_L_send_0 rfl (lv_at hl 0 rfl) ?_
  refine jw_rV (As := []) (rest := []) hx hb hml hown ht (m_L_isFull l D nn gg _ (by omega)) (o_L_isFull) k_L_20 rfl rfl ⟨Nat.le_of_ble_eq_true rfl, Nat.le_of_ble_eq_true rfl⟩ (jw_subP hP [0] rfl) (hK.sub [] rfl) (va_recv (q0 := 0) (ci := 1) hK hP rfl rfl) rfl hl.1 rfl (Nat.le_of_ble_eq_true rfl) d_L_send_1 ⟨Nat.zero_le _, Nat.zero_le _⟩ ?_
  refine lv_if_eq (tgt := 8) hx hb d_L_send_4 (by decide) (fun h4 => ?_) (fun h4 => ?_)
  · skip
    have h4 := of_decide_eq_false (jw_b0 h4)
    refine lv_aload_n hx hb d_L_send_8 rfl (lv_at hl 0 rfl) ?_
    refine va_get (D := D) (ci := 1) (v := .ref gg) (C := jn_L) (T := jf_L) (N := 2) hx hb ht ji_L hown hK hP 0 rfl rfl 0 (by decide) (ht _ k_L_13) (fun _ h9 => h9) rfl d_L_send_9 ?_
    refine lv_aload_n hx hb d_L_send_12 rfl (lv_at hl 0 rfl) ?_
    refine va_get (D := D) (ci := 1) (v := .int (nI L0.2)) (C := jn_L) (T := jf_L) (N := 2) hx hb ht ji_L hown hK hP 0 rfl rfl 1 (by decide) (ht _ k_L_16) (fun _ h9 => h9) rfl d_L_send_13 ?_
    refine jw_ald (v := .ref (ad L0.2)) hx hb hK hP 1 1 rfl rfl rfl (vp_in_nI (by omega) (by decide)) (by rw [show (nI L0.2).toNatClampNeg = L0.2 from nI_clamp (by omega)]; exact jx_rf (by omega)) d_L_send_16 ?_
    refine lv_astore (lv' := [(6, .ref (ad L0.2)), (0, .ref nn), (1, .int (nI kd)), (2, .int (nI cl)), (3, .int (nI rv)), (4, .int (nI (jt_po o))), (5, .int (nI nm))]) hx hb d_L_send_17 hl (by decide) rfl (fun ls hl => ?_)
    refine lv_aload hx hb d_L_send_19 (lv_at hl 0 rfl) ?_
    refine lv_iconst (v := nI 0) hx hb d_L_send_21 (by decide) ?_
    refine lv_iload_n hx hb d_L_send_22 rfl (lv_at hl 2 rfl) ?_
    refine va_iast hx hb hK hP hD hS (2 + L0.2) 0 (jx_at rfl (by omega)) rfl (vp_in_nI (by omega) (by decide)) d_L_send_23 (fun H locs hP hD hS => ?_)
    rw [show (nI 0).toNatClampNeg = 0 from nI_clamp (by omega), jx_set (X := [(nn, .inr (1, [.ref gg, .int (nI L0.2)])), (gg, .inl (cG, 30, .inr (.inr (.inr (.inr (jx_o ad))))))]) (n := 2) (k := L0.2) rfl (by omega)] at hP hD
    generalize hM1 : va_up M L0.2 (upd (M L0.2) 0 (nI kd)) = M1 at hP hD
    refine lv_aload hx hb d_L_send_24 (lv_at hl 0 rfl) ?_
    refine lv_iconst (v := nI 1) hx hb d_L_send_26 (by decide) ?_
    refine lv_iload_n hx hb d_L_send_27 rfl (lv_at hl 3 rfl) ?_
    refine va_iast hx hb hK hP hD hS (2 + L0.2) 0 (jx_at rfl (by omega)) rfl (vp_in_nI (by omega) (by decide)) d_L_send_28 (fun H locs hP hD hS => ?_)
    rw [show (nI 1).toNatClampNeg = 1 from nI_clamp (by omega), jx_set (X := [(nn, .inr (1, [.ref gg, .int (nI L0.2)])), (gg, .inl (cG, 30, .inr (.inr (.inr (.inr (jx_o ad))))))]) (n := 2) (k := L0.2) rfl (by omega)] at hP hD
    generalize hM2 : va_up M1 L0.2 (upd (M1 L0.2) 1 (nI cl)) = M2 at hP hD
    refine lv_aload hx hb d_L_send_29 (lv_at hl 0 rfl) ?_
    refine lv_iconst (v := nI 2) hx hb d_L_send_31 (by decide) ?_
    refine lv_iload_n hx hb d_L_send_32 rfl (lv_at hl 4 rfl) ?_
    refine va_iast hx hb hK hP hD hS (2 + L0.2) 0 (jx_at rfl (by omega)) rfl (vp_in_nI (by omega) (by decide)) d_L_send_33 (fun H locs hP hD hS => ?_)
    rw [show (nI 2).toNatClampNeg = 2 from nI_clamp (by omega), jx_set (X := [(nn, .inr (1, [.ref gg, .int (nI L0.2)])), (gg, .inl (cG, 30, .inr (.inr (.inr (.inr (jx_o ad))))))]) (n := 2) (k := L0.2) rfl (by omega)] at hP hD
    generalize hM3 : va_up M2 L0.2 (upd (M2 L0.2) 2 (nI rv)) = M3 at hP hD
    refine lv_aload hx hb d_L_send_34 (lv_at hl 0 rfl) ?_
    refine lv_iconst (v := nI 3) hx hb d_L_send_36 (by decide) ?_
    refine lv_iload hx hb d_L_send_37 (lv_at hl 6 rfl) ?_
    refine va_iast hx hb hK hP hD hS (2 + L0.2) 0 (jx_at rfl (by omega)) rfl (vp_in_nI (by omega) (by decide)) d_L_send_39 (fun H locs hP hD hS => ?_)
    rw [show (nI 3).toNatClampNeg = 3 from nI_clamp (by omega), jx_set (X := [(nn, .inr (1, [.ref gg, .int (nI L0.2)])), (gg, .inl (cG, 30, .inr (.inr (.inr (.inr (jx_o ad))))))]) (n := 2) (k := L0.2) rfl (by omega)] at hP hD
    generalize hM4 : va_up M3 L0.2 (upd (M3 L0.2) 3 (nI nm)) = M4 at hP hD
    refine lv_aload hx hb d_L_send_40 (lv_at hl 0 rfl) ?_
    refine lv_iconst (v := nI 4) hx hb d_L_send_42 (by decide) ?_
    refine lv_iload hx hb d_L_send_43 (lv_at hl 5 rfl) ?_
    refine va_iast hx hb hK hP hD hS (2 + L0.2) 0 (jx_at rfl (by omega)) rfl (vp_in_nI (by omega) (by decide)) d_L_send_45 (fun H locs hP hD hS => ?_)
    rw [show (nI 4).toNatClampNeg = 4 from nI_clamp (by omega), jx_set (X := [(nn, .inr (1, [.ref gg, .int (nI L0.2)])), (gg, .inl (cG, 30, .inr (.inr (.inr (.inr (jx_o ad))))))]) (n := 2) (k := L0.2) rfl (by omega)] at hP hD
    generalize hM5 : va_up M4 L0.2 (upd (M4 L0.2) 4 (nI (jt_po o))) = M5 at hP hD
    refine lv_aload hx hb d_L_send_46 (lv_at hl 0 rfl) ?_
    refine lv_iconst (v := nI 5) hx hb d_L_send_48 (by decide) ?_
    refine lv_iconst (v := nI 0) hx hb d_L_send_49 (by decide) ?_
    refine va_iast hx hb hK hP hD hS (2 + L0.2) 0 (jx_at rfl (by omega)) rfl (vp_in_nI (by omega) (by decide)) d_L_send_50 (fun H locs hP hD hS => ?_)
    rw [show (nI 5).toNatClampNeg = 5 from nI_clamp (by omega), jx_set (X := [(nn, .inr (1, [.ref gg, .int (nI L0.2)])), (gg, .inl (cG, 30, .inr (.inr (.inr (.inr (jx_o ad))))))]) (n := 2) (k := L0.2) rfl (by omega)] at hP hD
    generalize hM6 : va_up M5 L0.2 (upd (M5 L0.2) 5 (nI 0)) = M6 at hP hD
    refine lv_aload_n hx hb d_L_send_51 rfl (lv_at hl 1 rfl) ?_
    refine lv_dup hx hb d_L_send_52 rfl ?_
    refine va_get (D := D) (ci := 1) (v := .int (nI L0.2)) (C := jn_L) (T := jf_L) (N := 2) hx hb ht ji_L hown hK hP 0 rfl rfl 1 (by decide) (ht _ k_L_16) (fun _ h9 => h9) rfl d_L_send_53 ?_
    refine lv_iconst (v := nI 1) hx hb d_L_send_56 (by decide) ?_
    refine lv_iadd hx hb d_L_send_57 ?_
    refine lv_topi (fun v7 ev7 => ?_)
    obtain rfl : v7 = nI (L0.2 + 1) := ev7.trans (nI_add _ _)
    refine va_put (D := D) (ci := 1) (v := .int (nI (L0.2 + 1))) (ty := .int) (C := jn_L) (T := jf_L) (N := 2) hx hb ht ji_L jy_L jo_L jm_L hown hK hP hD hS 0 rfl rfl 1 (by decide) (ht _ k_L_16) (fun _ h9 => h9) rfl (by decide +kernel) rfl rfl (Nat.le_of_ble_eq_true rfl) d_L_send_58 (fun H locs hP hD hS => ?_)
    have hP : va_P D jw_cl (([(nn, .inr (1, [.ref gg, .int (nI (L0.2 + 1))])), (gg, .inl (cG, 30, .inr (.inr (.inr (.inr (jx_o ad))))))] : va_W) ++ jx_r ad cI M6) H := hP
    have hD : va_D A (([(nn, .inr (1, [.ref gg, .int (nI (L0.2 + 1))])), (gg, .inl (cG, 30, .inr (.inr (.inr (.inr (jx_o ad))))))] : va_W) ++ jx_r ad cI M6) := hD
    have hother : ∀ k, k ≠ L0.2 → M6 k = M k := fun k hk => by rw [← hM6, va_up_ne _ _ hk, ← hM5, va_up_ne _ _ hk, ← hM4, va_up_ne _ _ hk, ← hM3, va_up_ne _ _ hk, ← hM2, va_up_ne _ _ hk, ← hM1, va_up_ne _ _ hk]
    have c0 : M6 L0.2 0 = nI kd := by rw [← hM6, va_up_self, pk_un (by decide), ← hM5, va_up_self, pk_un (by decide), ← hM4, va_up_self, pk_un (by decide), ← hM3, va_up_self, pk_un (by decide), ← hM2, va_up_self, pk_un (by decide), ← hM1, va_up_self, pk_us]
    have c1 : M6 L0.2 1 = nI cl := by rw [← hM6, va_up_self, pk_un (by decide), ← hM5, va_up_self, pk_un (by decide), ← hM4, va_up_self, pk_un (by decide), ← hM3, va_up_self, pk_un (by decide), ← hM2, va_up_self, pk_us]
    have c2 : M6 L0.2 2 = nI rv := by rw [← hM6, va_up_self, pk_un (by decide), ← hM5, va_up_self, pk_un (by decide), ← hM4, va_up_self, pk_un (by decide), ← hM3, va_up_self, pk_us]
    have c3 : M6 L0.2 3 = nI nm := by rw [← hM6, va_up_self, pk_un (by decide), ← hM5, va_up_self, pk_un (by decide), ← hM4, va_up_self, pk_us]
    have c4 : M6 L0.2 4 = nI (jt_po o) := by rw [← hM6, va_up_self, pk_un (by decide), ← hM5, va_up_self, pk_us]
    have c5 : M6 L0.2 5 = nI 0 := by rw [← hM6, va_up_self, pk_us]
    have hcnt : (jt_sd L0 (kd, cl, rv, nm, o, 0)).2 = L0.2 + 1 := by unfold jt_sd; rw [if_pos (by omega)]
    rw [← hcnt] at hP hD
    exact W.vret hx hb hr (fun t9 ht9 hW9 => ⟨⟨M6, rfl, jt_rm_sd hM (by omega) hother c0 c1 c2 c3 c4 c5, by rw [ht9]; exact hP, hD⟩, hS.F ht9⟩) hS.2.2 d_L_send_61
  · skip
    have h4 := of_decide_eq_true (jw_b1 h4)
    rw [show L0 = jt_sd L0 (kd, cl, rv, nm, o, 0) by unfold jt_sd; rw [if_neg (by omega)]] at hP hD
    exact W.vret hx hb hr (fun t9 ht9 hW9 => ⟨⟨M, rfl, by rw [show jt_sd L0 (kd, cl, rv, nm, o, 0) = L0 by unfold jt_sd; rw [if_neg (by omega)]]; exact hM, by rw [ht9]; exact hP, hD⟩, hS.F ht9⟩) hS.2.2 d_L_send_7

theorem jw_cpy6 {f g : Nat → Int32} {j : Nat} (h : j < 6) : va_cpy f g 0 0 6 j = f j := by rw [pk_cpy_in (by omega) (by omega)]; congr 1; omega
theorem jt_rm_cp {M : Nat → Nat → Int32} {L : jt_L} {k : Nat} (h : jt_rm M L) (hL : L.2 < 30) (hk : k < L.2) : jt_rm (va_up M L.2 (va_cpy (M k) (M L.2) 0 0 6)) (jt_sd L (L.1 k)) := by
  obtain ⟨h0, h1, h2, h3, h4, h5⟩ := h k hk
  refine jt_rm_sd h hL (fun i hi => va_up_ne _ _ hi) ?_ ?_ ?_ ?_ ?_ ?_ <;> rw [va_up_self, jw_cpy6 (by decide)] <;> assumption
def jt_row (m : jt_M) : Nat → Int32 := fun j => if j = 0 then nI m.1 else if j = 1 then nI m.2.1 else if j = 2 then nI m.2.2.1 else if j = 3 then nI m.2.2.2.1 else if j = 4 then nI (jt_po m.2.2.2.2.1) else nI m.2.2.2.2.2
theorem jt_rm_row {M : Nat → Nat → Int32} {L : jt_L} : jt_rm M L ↔ ∀ k, k < L.2 → ∀ j, j < 6 → M k j = jt_row (L.1 k) j := by
  constructor
  · intro h k hk j hj
    obtain ⟨h0, h1, h2, h3, h4, h5⟩ := h k hk
    have hj6 : j = 0 ∨ j = 1 ∨ j = 2 ∨ j = 3 ∨ j = 4 ∨ j = 5 := by omega
    rcases hj6 with e | e | e | e | e | e <;> rw [e] <;> assumption
  · intro h k hk
    exact ⟨h k hk 0 (by decide), h k hk 1 (by decide), h k hk 2 (by decide), h k hk 3 (by decide), h k hk 4 (by decide), h k hk 5 (by decide)⟩
/-- the rows while a message is taken out: up to i moved -/
def jt_rk (M : Nat → Nat → Int32) (L : jt_L) (k i : Nat) : Prop := (∀ a, a < k → ∀ j, j < 6 → M a j = jt_row (L.1 a) j) ∧ (∀ a, k ≤ a → a + 1 < i → ∀ j, j < 6 → M a j = jt_row (L.1 (a + 1)) j) ∧ (∀ a, i ≤ a → a < L.2 → ∀ j, j < 6 → M a j = jt_row (L.1 a) j)
theorem jt_rk_step {M : Nat → Nat → Int32} {L : jt_L} {k i : Nat} (h : jt_rk M L k i) (hk : k < i) (hi : i < L.2) : jt_rk (va_up M (i - 1) (va_cpy (M i) (M (i - 1)) 0 0 6)) L k (i + 1) := by
  obtain ⟨h1, h2, h3⟩ := h
  refine ⟨fun a ha j hj => ?_, fun a ha1 ha2 j hj => ?_, fun a ha1 ha2 j hj => ?_⟩
  · rw [va_up_ne _ _ (by omega)]; exact h1 a ha j hj
  · by_cases e : a = i - 1
    · rw [e, va_up_self, jw_cpy6 hj, show i - 1 + 1 = i by omega]; exact h3 i (Nat.le_refl _) hi j hj
    · rw [va_up_ne _ _ e]; exact h2 a ha1 (by omega) j hj
  · rw [va_up_ne _ _ (by omega)]; exact h3 a (by omega) ha2 j hj
theorem jt_rk_0 {M : Nat → Nat → Int32} {L : jt_L} {k : Nat} (h : jt_rm M L) (hk : k < L.2) : jt_rk M L k (k + 1) := by
  have h := jt_rm_row.mp h
  exact ⟨fun a ha j hj => h a (by omega) j hj, fun a ha1 ha2 j hj => by omega, fun a ha1 ha2 j hj => h a ha2 j hj⟩
theorem jt_rk_e {M : Nat → Nat → Int32} {L : jt_L} {k : Nat} (h : jt_rk M L k L.2) : jt_rm M (jt_tk L k) := by
  obtain ⟨h1, h2, h3⟩ := h
  refine jt_rm_row.mpr (fun a ha j hj => ?_)
  have ha : a < L.2 - 1 := ha
  show M a j = jt_row (if a < k then L.1 a else L.1 (a + 1)) j
  split
  · exact h1 a (by assumption) j hj
  · exact h2 a (by omega) (by omega) j hj

set_option maxHeartbeats 4000000 in
set_option maxRecDepth 100000 in
theorem m_L_sendCopy (l : Launch) (D : va_G) (sz : Nat) (nn gg : Nat) (ad : Nat → Nat) (cI cG : ClassId) (M : Nat → Nat → Int32) (L0 : jt_L) (hM : jt_rm M L0) (hL30 : L0.2 ≤ 30) (k : Nat) (hk : k < L0.2) (hL : L0.2 < 30) : Met l y_L_sendCopy w_L_sendCopy ({ frames := 2, cells := 0, slots := 0, locals := 40 }) (jw_C [.ref nn, .int (nI k)] D jw_cl (([(nn, .inr (1, [.ref gg, .int (nI L0.2)])), (gg, .inl (cG, 30, .inr (.inr (.inr (.inr (jx_o ad))))))] : va_W) ++ jx_r ad cI M) [(cI, .int), (cG, .array .int)] sz) (va_Qv (fun u : Nat → Nat → Int32 => jt_rm u (jt_sd L0 (L0.1 k))) (jw_B D jw_cl (va_A (([(nn, .inr (1, [.ref gg, .int (nI L0.2)])), (gg, .inl (cG, 30, .inr (.inr (.inr (.inr (jx_o ad))))))] : va_W) ++ jx_r ad cI M) sz) (fun u : Nat → Nat → Int32 => ([(nn, .inr (1, [.ref gg, .int (nI ((jt_sd L0 (L0.1 k)).2))])), (gg, .inl (cG, 30, .inr (.inr (.inr (.inr (jx_o ad))))))] : va_W) ++ jx_r ad cI u)) (va_A (([(nn, .inr (1, [.ref gg, .int (nI L0.2)])), (gg, .inl (cG, 30, .inr (.inr (.inr (.inr (jx_o ad))))))] : va_W) ++ jx_r ad cI M) sz)) 0 0 (va_A (([(nn, .inr (1, [.ref gg, .int (nI L0.2)])), (gg, .inl (cG, 30, .inr (.inr (.inr (.inr (jx_o ad))))))] : va_W) ++ jx_r ad cI M) sz) := by
  refine Met.ofW (cc := c_L_sendCopy) (maxL := 2) (ret := none) (by decide) rfl ?_
  intro pg0 en0 s m args below meth cd0 s₁ B hml hv
  obtain ⟨rfl, hsz, hP, hK, hD0⟩ := hv
  have hx := B.exec
  have hb := B.bytes
  have hr := B.returns
  have hts := atoms_spec (ws := w_L_sendCopy) B.pre
  have ht : ∀ w ∈ jw_tbl, w.before _ s = true := fun w h => hts w (List.mem_cons_of_mem _ h)
  have hown : s.vm.findClass jn_L = some m.cls := findClass_of_methodNamed B.named
  have hlocks := B.notSynchronized
  subst hsz
  have hD := hD0.self (sz := s.heap.size)
  generalize hAe : va_A (([(nn, .inr (1, [.ref gg, .int (nI L0.2)])), (gg, .inl (cG, 30, .inr (.inr (.inr (.inr (jx_o ad))))))] : va_W) ++ jx_r ad cI M) s.heap.size = A at hD ⊢
  have hA : ∀ q : Nat, s.heap.size ≤ q → A q := fun q h => by rw [← hAe]; exact Or.inr h
  have hS : va_S A s.heap s.heap [] := va_S.rf
  have hP : va_P D jw_cl (([(nn, .inr (1, [.ref gg, .int (nI L0.2)])), (gg, .inl (cG, 30, .inr (.inr (.inr (.inr (jx_o ad))))))] : va_W) ++ jx_r ad cI M) s.heap := hP
  have hl := lv_entry ([.ref nn, .int (nI k)]) (n := 2) (Nat.le_of_ble_eq_true rfl)
  rw [lg_entry_eq]
  generalize (lg_sl ([.ref nn, .int (nI k)]) ++ List.replicate (2 - (lg_sl ([.ref nn, .int (nI k)])).length) Slot.unset).toArray = ls at hl ⊢
  have hl : lv_has ls 2 [(0, .ref nn), (1, .int (nI k))] := hl
  refine lv_aload_n hx hb d_L_sendCopy_0 rfl (lv_at hl 0 rfl) ?_
  refine jw_rV (As := []) (rest := []) hx hb hml hown ht (m_L_isFull l D nn gg _ (by omega)) (o_L_isFull) k_L_20 rfl rfl ⟨Nat.le_of_ble_eq_true rfl, Nat.le_of_ble_eq_true rfl⟩ (jw_subP hP [0] rfl) (hK.sub [] rfl) (va_recv (q0 := 0) (ci := 1) hK hP rfl rfl) rfl hl.1 rfl (Nat.le_of_ble_eq_true rfl) d_L_sendCopy_1 ⟨Nat.zero_le _, Nat.zero_le _⟩ ?_
  refine lv_if_eq (tgt := 8) hx hb d_L_sendCopy_4 (by decide) (fun h4 => ?_) (fun h4 => absurd (of_decide_eq_true (jw_b1 h4)) (by omega))
  refine lv_aload_n hx hb d_L_sendCopy_8 rfl (lv_at hl 0 rfl) ?_
  refine lv_iload_n hx hb d_L_sendCopy_9 rfl (lv_at hl 1 rfl) ?_
  refine lv_aload_n hx hb d_L_sendCopy_10 rfl (lv_at hl 0 rfl) ?_
  refine va_get (D := D) (ci := 1) (v := .int (nI L0.2)) (C := jn_L) (T := jf_L) (N := 2) hx hb ht ji_L hown hK hP 0 rfl rfl 1 (by decide) (ht _ k_L_16) (fun _ h9 => h9) rfl d_L_sendCopy_11 ?_
  refine jw_jvP (rx := fun u1 : Nat → Nat → Int32 => [(nn, .inr (1, [.ref gg, .int (nI L0.2)])), (gg, .inl (cG, 30, .inr (.inr (.inr (.inr (jx_o ad))))))]) (p1 := fun u1 : Nat → Nat → Int32 => jx_r ad cI u1) (X := [(nn, .inr (1, [.ref gg, .int (nI L0.2)])), (gg, .inl (cG, 30, .inr (.inr (.inr (.inr (jx_o ad))))))]) (cx := [(nn, .inr (1, [.ref gg, .int (nI L0.2)])), (gg, .inl (cG, 30, .inr (.inr (.inr (.inr (jx_o ad))))))]) (wr := []) (pl := jx_r ad cI M) (jw_uV (As := [.int (nI k), .int (nI L0.2)]) (rest := []) hx hb hml hown ht (m_L_copy l D _ nn gg ad cI cG M L0.2 k L0.2 (by omega) (by omega)) (o_L_copy) k_L_24 rfl rfl ⟨Nat.le_of_ble_eq_true rfl, Nat.le_of_ble_eq_true rfl⟩ (hP.part [0, 1] rfl) (hK.sub [0, 1] rfl) (hD.part [0, 1] (by decide) rfl) (va_recv (q0 := 0) (ci := 1) hK hP rfl rfl) rfl hl.1 rfl (Nat.le_of_ble_eq_true rfl) d_L_sendCopy_14 ⟨Nat.zero_le _, Nat.zero_le _⟩) hP hD hS hA [0, 1] [] rfl rfl (by decide) (by decide) (fun u1 H locs hu1 hP hD hS => ?_)
  have hP : va_P D jw_cl (([(nn, .inr (1, [.ref gg, .int (nI L0.2)])), (gg, .inl (cG, 30, .inr (.inr (.inr (.inr (jx_o ad))))))] : va_W) ++ jx_r ad cI u1) H := hP
  have hD : va_D A (([(nn, .inr (1, [.ref gg, .int (nI L0.2)])), (gg, .inl (cG, 30, .inr (.inr (.inr (.inr (jx_o ad))))))] : va_W) ++ jx_r ad cI u1) := hD
  refine lv_aload_n hx hb d_L_sendCopy_17 rfl (lv_at hl 0 rfl) ?_
  refine lv_dup hx hb d_L_sendCopy_18 rfl ?_
  refine va_get (D := D) (ci := 1) (v := .int (nI L0.2)) (C := jn_L) (T := jf_L) (N := 2) hx hb ht ji_L hown hK hP 0 rfl rfl 1 (by decide) (ht _ k_L_16) (fun _ h9 => h9) rfl d_L_sendCopy_19 ?_
  refine lv_iconst (v := nI 1) hx hb d_L_sendCopy_22 (by decide) ?_
  refine lv_iadd hx hb d_L_sendCopy_23 ?_
  refine lv_topi (fun v3 ev3 => ?_)
  obtain rfl : v3 = nI (L0.2 + 1) := ev3.trans (nI_add _ _)
  refine va_put (D := D) (ci := 1) (v := .int (nI (L0.2 + 1))) (ty := .int) (C := jn_L) (T := jf_L) (N := 2) hx hb ht ji_L jy_L jo_L jm_L hown hK hP hD hS 0 rfl rfl 1 (by decide) (ht _ k_L_16) (fun _ h9 => h9) rfl (by decide +kernel) rfl rfl (Nat.le_of_ble_eq_true rfl) d_L_sendCopy_24 (fun H locs hP hD hS => ?_)
  have hP : va_P D jw_cl (([(nn, .inr (1, [.ref gg, .int (nI (L0.2 + 1))])), (gg, .inl (cG, 30, .inr (.inr (.inr (.inr (jx_o ad))))))] : va_W) ++ jx_r ad cI u1) H := hP
  have hD : va_D A (([(nn, .inr (1, [.ref gg, .int (nI (L0.2 + 1))])), (gg, .inl (cG, 30, .inr (.inr (.inr (.inr (jx_o ad))))))] : va_W) ++ jx_r ad cI u1) := hD
  have hP := hP.part (cx := [(nn, .inr (1, [.ref gg, .int (nI (L0.2 + 1))])), (gg, .inl (cG, 30, .inr (.inr (.inr (.inr (jx_o ad))))))]) [0, 1] rfl
  have hD := hD.part (cx := [(nn, .inr (1, [.ref gg, .int (nI (L0.2 + 1))])), (gg, .inl (cG, 30, .inr (.inr (.inr (.inr (jx_o ad))))))]) [0, 1] (by decide) rfl
  have hcnt : (jt_sd L0 (L0.1 k)).2 = L0.2 + 1 := by unfold jt_sd; rw [if_pos (by omega)]
  rw [← hcnt] at hP hD
  exact W.vret hx hb hr (fun t9 ht9 hW9 => ⟨⟨u1, rfl, by rw [hu1]; exact jt_rm_cp hM (by omega) hk, by rw [ht9]; exact hP, hD⟩, hS.F ht9⟩) hS.2.2 d_L_sendCopy_27

set_option maxHeartbeats 4000000 in
set_option maxRecDepth 100000 in
theorem m_L_takeOut (l : Launch) (D : va_G) (sz : Nat) (nn gg : Nat) (ad : Nat → Nat) (cI cG : ClassId) (M : Nat → Nat → Int32) (L0 : jt_L) (hM : jt_rm M L0) (hL30 : L0.2 ≤ 30) (k : Nat) (hk : k < L0.2) : Met l y_L_takeOut w_L_takeOut ({ frames := 2, cells := 0, slots := 0, locals := 40 }) (jw_C [.ref nn, .int (nI k)] D jw_cl (([(nn, .inr (1, [.ref gg, .int (nI L0.2)])), (gg, .inl (cG, 30, .inr (.inr (.inr (.inr (jx_o ad))))))] : va_W) ++ jx_r ad cI M) [(cI, .int), (cG, .array .int)] sz) (va_Qv (fun u : Nat → Nat → Int32 => jt_rm u (jt_tk L0 k)) (jw_B D jw_cl (va_A (([(nn, .inr (1, [.ref gg, .int (nI L0.2)])), (gg, .inl (cG, 30, .inr (.inr (.inr (.inr (jx_o ad))))))] : va_W) ++ jx_r ad cI M) sz) (fun u : Nat → Nat → Int32 => ([(nn, .inr (1, [.ref gg, .int (nI (L0.2 - 1))])), (gg, .inl (cG, 30, .inr (.inr (.inr (.inr (jx_o ad))))))] : va_W) ++ jx_r ad cI u)) (va_A (([(nn, .inr (1, [.ref gg, .int (nI L0.2)])), (gg, .inl (cG, 30, .inr (.inr (.inr (.inr (jx_o ad))))))] : va_W) ++ jx_r ad cI M) sz)) 0 0 (va_A (([(nn, .inr (1, [.ref gg, .int (nI L0.2)])), (gg, .inl (cG, 30, .inr (.inr (.inr (.inr (jx_o ad))))))] : va_W) ++ jx_r ad cI M) sz) := by
  refine Met.ofW (cc := c_L_takeOut) (maxL := 3) (ret := none) (by decide) rfl ?_
  intro pg0 en0 s m args below meth cd0 s₁ B hml hv
  obtain ⟨rfl, hsz, hP, hK, hD0⟩ := hv
  have hx := B.exec
  have hb := B.bytes
  have hr := B.returns
  have hts := atoms_spec (ws := w_L_takeOut) B.pre
  have ht : ∀ w ∈ jw_tbl, w.before _ s = true := fun w h => hts w (List.mem_cons_of_mem _ h)
  have hown : s.vm.findClass jn_L = some m.cls := findClass_of_methodNamed B.named
  have hlocks := B.notSynchronized
  subst hsz
  have hD := hD0.self (sz := s.heap.size)
  generalize hAe : va_A (([(nn, .inr (1, [.ref gg, .int (nI L0.2)])), (gg, .inl (cG, 30, .inr (.inr (.inr (.inr (jx_o ad))))))] : va_W) ++ jx_r ad cI M) s.heap.size = A at hD ⊢
  have hA : ∀ q : Nat, s.heap.size ≤ q → A q := fun q h => by rw [← hAe]; exact Or.inr h
  have hS : va_S A s.heap s.heap [] := va_S.rf
  have hP : va_P D jw_cl (([(nn, .inr (1, [.ref gg, .int (nI L0.2)])), (gg, .inl (cG, 30, .inr (.inr (.inr (.inr (jx_o ad))))))] : va_W) ++ jx_r ad cI M) s.heap := hP
  have hl := lv_entry ([.ref nn, .int (nI k)]) (n := 3) (Nat.le_of_ble_eq_true rfl)
  rw [lg_entry_eq]
  generalize (lg_sl ([.ref nn, .int (nI k)]) ++ List.replicate (3 - (lg_sl ([.ref nn, .int (nI k)])).length) Slot.unset).toArray = ls at hl ⊢
  have hl : lv_has ls 3 [(0, .ref nn), (1, .int (nI k))] := hl
  refine lv_iload_n hx hb d_L_takeOut_0 rfl (lv_at hl 1 rfl) ?_
  refine lv_iconst (v := nI 1) hx hb d_L_takeOut_1 (by decide) ?_
  refine lv_iadd hx hb d_L_takeOut_2 ?_
  refine lv_topi (fun v1 ev1 => ?_)
  obtain rfl : v1 = nI (k + 1) := ev1.trans (nI_add _ _)
  refine lv_istore_n (lv' := [(2, .int (nI (k + 1))), (0, .ref nn), (1, .int (nI k))]) hx hb d_L_takeOut_3 rfl hl (by decide) rfl (fun ls hl => ?_)
  refine jw_loop (I := fun n0 ls H locs => ∃ (i : Nat) (M2 : Nat → Nat → Int32), n0 = L0.2 - i ∧ k < i ∧ i ≤ L0.2 ∧ lv_has ls 3 [(2, .int (nI i)), (0, .ref nn), (1, .int (nI k))] ∧ jt_rk M2 L0 k i ∧ va_P D jw_cl (([(nn, .inr (1, [.ref gg, .int (nI L0.2)])), (gg, .inl (cG, 30, .inr (.inr (.inr (.inr (jx_o ad))))))] : va_W) ++ jx_r ad cI M2) H ∧ va_D A (([(nn, .inr (1, [.ref gg, .int (nI L0.2)])), (gg, .inl (cG, 30, .inr (.inr (.inr (.inr (jx_o ad))))))] : va_W) ++ jx_r ad cI M2) ∧ va_S A s.heap H locs) (L0.2 - (k + 1)) ⟨k + 1, M, rfl, by omega, by omega, hl, jt_rk_0 hM hk, hP, hD, hS⟩ (fun n0 ls H locs hI ih => ?_)
  obtain ⟨i, M2, hn0, hi0, hi1, hl, hrk, hP, hD, hS⟩ := hI
  refine lv_iload_n hx hb d_L_takeOut_4 rfl (lv_at hl 0 rfl) ?_
  refine lv_aload_n hx hb d_L_takeOut_5 rfl (lv_at hl 1 rfl) ?_
  refine va_get (D := D) (ci := 1) (v := .int (nI L0.2)) (C := jn_L) (T := jf_L) (N := 2) hx hb ht ji_L hown hK hP 0 rfl rfl 1 (by decide) (ht _ k_L_16) (fun _ h9 => h9) rfl d_L_takeOut_6 ?_
  refine lv_icmp_ge (tgt := 26) hx hb d_L_takeOut_9 (by decide) (fun h9 => ?_) (fun h9 => ?_)
  · skip
    have h9 := jw_ge (by omega) (by omega) h9
    refine lv_aload_n hx hb d_L_takeOut_26 rfl (lv_at hl 1 rfl) ?_
    refine lv_dup hx hb d_L_takeOut_27 rfl ?_
    refine va_get (D := D) (ci := 1) (v := .int (nI L0.2)) (C := jn_L) (T := jf_L) (N := 2) hx hb ht ji_L hown hK hP 0 rfl rfl 1 (by decide) (ht _ k_L_16) (fun _ h9 => h9) rfl d_L_takeOut_28 ?_
    refine lv_iconst (v := nI 1) hx hb d_L_takeOut_31 (by decide) ?_
    refine lv_isub hx hb d_L_takeOut_32 ?_
    refine lv_topi (fun v2 ev2 => ?_)
    obtain rfl : v2 = nI (L0.2 - 1) := ev2.trans (pk_sub (by omega))
    refine va_put (D := D) (ci := 1) (v := .int (nI (L0.2 - 1))) (ty := .int) (C := jn_L) (T := jf_L) (N := 2) hx hb ht ji_L jy_L jo_L jm_L hown hK hP hD hS 0 rfl rfl 1 (by decide) (ht _ k_L_16) (fun _ h9 => h9) rfl (by decide +kernel) rfl rfl (Nat.le_of_ble_eq_true rfl) d_L_takeOut_33 (fun H locs hP hD hS => ?_)
    have hP : va_P D jw_cl (([(nn, .inr (1, [.ref gg, .int (nI (L0.2 - 1))])), (gg, .inl (cG, 30, .inr (.inr (.inr (.inr (jx_o ad))))))] : va_W) ++ jx_r ad cI M2) H := hP
    have hD : va_D A (([(nn, .inr (1, [.ref gg, .int (nI (L0.2 - 1))])), (gg, .inl (cG, 30, .inr (.inr (.inr (.inr (jx_o ad))))))] : va_W) ++ jx_r ad cI M2) := hD
    exact W.vret hx hb hr (fun t9 ht9 hW9 => ⟨⟨M2, rfl, jt_rk_e (by rw [show L0.2 = i by omega]; exact hrk), by rw [ht9]; exact hP, hD⟩, hS.F ht9⟩) hS.2.2 d_L_takeOut_36
  · skip
    have h9 := jw_nge (by omega) (by omega) h9
    refine lv_aload_n hx hb d_L_takeOut_12 rfl (lv_at hl 1 rfl) ?_
    refine lv_iload_n hx hb d_L_takeOut_13 rfl (lv_at hl 0 rfl) ?_
    refine lv_iload_n hx hb d_L_takeOut_14 rfl (lv_at hl 0 rfl) ?_
    refine lv_iconst (v := nI 1) hx hb d_L_takeOut_15 (by decide) ?_
    refine lv_isub hx hb d_L_takeOut_16 ?_
    refine lv_topi (fun v3 ev3 => ?_)
    obtain rfl : v3 = nI (i - 1) := ev3.trans (pk_sub (by omega))
    refine jw_jvP (rx := fun u4 : Nat → Nat → Int32 => [(nn, .inr (1, [.ref gg, .int (nI L0.2)])), (gg, .inl (cG, 30, .inr (.inr (.inr (.inr (jx_o ad))))))]) (p1 := fun u4 : Nat → Nat → Int32 => jx_r ad cI u4) (X := [(nn, .inr (1, [.ref gg, .int (nI L0.2)])), (gg, .inl (cG, 30, .inr (.inr (.inr (.inr (jx_o ad))))))]) (cx := [(nn, .inr (1, [.ref gg, .int (nI L0.2)])), (gg, .inl (cG, 30, .inr (.inr (.inr (.inr (jx_o ad))))))]) (wr := []) (pl := jx_r ad cI M2) (jw_uV (As := [.int (nI i), .int (nI (i - 1))]) (rest := []) hx hb hml hown ht (m_L_copy l D _ nn gg ad cI cG M2 L0.2 i (i - 1) (by omega) (by omega)) (o_L_copy) k_L_24 rfl rfl ⟨Nat.le_of_ble_eq_true rfl, Nat.le_of_ble_eq_true rfl⟩ (hP.part [0, 1] rfl) (hK.sub [0, 1] rfl) (hD.part [0, 1] (by decide) rfl) (va_recv (q0 := 0) (ci := 1) hK hP rfl rfl) rfl hl.1 rfl (Nat.le_of_ble_eq_true rfl) d_L_takeOut_17 ⟨Nat.zero_le _, Nat.zero_le _⟩) hP hD hS hA [0, 1] [] rfl rfl (by decide) (by decide) (fun u4 H locs hu4 hP hD hS => ?_)
    have hP : va_P D jw_cl (([(nn, .inr (1, [.ref gg, .int (nI L0.2)])), (gg, .inl (cG, 30, .inr (.inr (.inr (.inr (jx_o ad))))))] : va_W) ++ jx_r ad cI u4) H := hP
    have hD : va_D A (([(nn, .inr (1, [.ref gg, .int (nI L0.2)])), (gg, .inl (cG, 30, .inr (.inr (.inr (.inr (jx_o ad))))))] : va_W) ++ jx_r ad cI u4) := hD
    refine lv_iinc (v := nI (i + 1)) (lv' := [(2, .int (nI (i + 1))), (0, .ref nn), (1, .int (nI k))]) hx hb d_L_takeOut_20 hl (k := 0) rfl (show nI _ + Int32.ofInt 1 = nI _ from nI_add _ 1) (by decide) rfl (fun ls hl => ?_)
    refine lv_goto (tgt := 4) hx hb d_L_takeOut_23 (by decide) ?_
    have hP := hP.part (cx := [(nn, .inr (1, [.ref gg, .int (nI L0.2)])), (gg, .inl (cG, 30, .inr (.inr (.inr (.inr (jx_o ad))))))]) [0, 1] rfl
    have hD := hD.part (cx := [(nn, .inr (1, [.ref gg, .int (nI L0.2)])), (gg, .inl (cG, 30, .inr (.inr (.inr (.inr (jx_o ad))))))]) [0, 1] (by decide) rfl
    exact ih _ ls H locs (by omega) ⟨i + 1, u4, rfl, by omega, by omega, hl, by rw [hu4]; exact jt_rk_step hrk (by omega) (by omega), hP, hD, hS⟩

theorem jw_xor0 (a b : Nat) : nI a ^^^ nI b = nI (a ^^^ b) := by
  apply Int32.toBitVec_inj.mp
  show BitVec.ofNat 32 a ^^^ BitVec.ofNat 32 b = BitVec.ofNat 32 (a ^^^ b)
  exact (BitVec.ofNat_xor).symm
/-- a mark changed -/
def jt_hm (L : jt_L) (k x : Nat) : jt_L := (va_up L.1 k ((L.1 k).1, (L.1 k).2.1, (L.1 k).2.2.1, (L.1 k).2.2.2.1, (L.1 k).2.2.2.2.1, (L.1 k).2.2.2.2.2 ^^^ x), L.2)
theorem jt_rm_hm {M : Nat → Nat → Int32} {L : jt_L} {k x : Nat} (h : jt_rm M L) : jt_rm (va_up M k (upd (M k) 5 (nI ((L.1 k).2.2.2.2.2 ^^^ x)))) (jt_hm L k x) := by
  intro i hi
  have hi : i < L.2 := hi
  obtain ⟨h0, h1, h2, h3, h4, h5⟩ := h i hi
  show va_up M k (upd (M k) 5 (nI ((L.1 k).2.2.2.2.2 ^^^ x))) i 0 = nI (va_up L.1 k _ i).1 ∧ va_up M k (upd (M k) 5 (nI ((L.1 k).2.2.2.2.2 ^^^ x))) i 1 = nI (va_up L.1 k _ i).2.1 ∧ va_up M k (upd (M k) 5 (nI ((L.1 k).2.2.2.2.2 ^^^ x))) i 2 = nI (va_up L.1 k _ i).2.2.1 ∧ va_up M k (upd (M k) 5 (nI ((L.1 k).2.2.2.2.2 ^^^ x))) i 3 = nI (va_up L.1 k _ i).2.2.2.1 ∧ va_up M k (upd (M k) 5 (nI ((L.1 k).2.2.2.2.2 ^^^ x))) i 4 = nI (jt_po (va_up L.1 k _ i).2.2.2.2.1) ∧ va_up M k (upd (M k) 5 (nI ((L.1 k).2.2.2.2.2 ^^^ x))) i 5 = nI (va_up L.1 k _ i).2.2.2.2.2
  by_cases e : i = k
  · subst e
    rw [va_up_self, va_up_self, pk_un (by decide), pk_un (by decide), pk_un (by decide), pk_un (by decide), pk_un (by decide), pk_us]
    exact ⟨h0, h1, h2, h3, h4, rfl⟩
  · rw [va_up_ne _ _ e, va_up_ne _ _ e]
    exact ⟨h0, h1, h2, h3, h4, h5⟩

set_option maxHeartbeats 4000000 in
set_option maxRecDepth 100000 in
theorem m_L_changeMark (l : Launch) (D : va_G) (sz : Nat) (nn gg : Nat) (ad : Nat → Nat) (cI cG : ClassId) (M : Nat → Nat → Int32) (L0 : jt_L) (hM : jt_rm M L0) (hL30 : L0.2 ≤ 30) (k : Nat) (x : Int32) (hk : k < L0.2) : Met l y_L_changeMark w_L_changeMark ({ frames := 0, cells := 0, slots := 0, locals := 0 }) (jw_C [.ref nn, .int (nI k), .int x] D jw_cl (([(nn, .inr (1, [.ref gg, .int (nI L0.2)])), (gg, .inl (cG, 30, .inr (.inr (.inr (.inr (jx_o ad))))))] : va_W) ++ jx_r ad cI M) [(cI, .int), (cG, .array .int)] sz) (va_Qv (fun u : Nat → Nat → Int32 => jt_rm u (jt_hm L0 k (x.toBitVec.toNat % 2 ^ 8))) (jw_B D jw_cl (va_A (([(nn, .inr (1, [.ref gg, .int (nI L0.2)])), (gg, .inl (cG, 30, .inr (.inr (.inr (.inr (jx_o ad))))))] : va_W) ++ jx_r ad cI M) sz) (fun u : Nat → Nat → Int32 => ([(nn, .inr (1, [.ref gg, .int (nI L0.2)])), (gg, .inl (cG, 30, .inr (.inr (.inr (.inr (jx_o ad))))))] : va_W) ++ jx_r ad cI u)) (va_A (([(nn, .inr (1, [.ref gg, .int (nI L0.2)])), (gg, .inl (cG, 30, .inr (.inr (.inr (.inr (jx_o ad))))))] : va_W) ++ jx_r ad cI M) sz)) 0 0 (va_A (([(nn, .inr (1, [.ref gg, .int (nI L0.2)])), (gg, .inl (cG, 30, .inr (.inr (.inr (.inr (jx_o ad))))))] : va_W) ++ jx_r ad cI M) sz) := by
  refine Met.ofW (cc := c_L_changeMark) (maxL := 3) (ret := none) (by decide) rfl ?_
  intro pg0 en0 s m args below meth cd0 s₁ B hml hv
  obtain ⟨rfl, hsz, hP, hK, hD0⟩ := hv
  have hx := B.exec
  have hb := B.bytes
  have hr := B.returns
  have hts := atoms_spec (ws := w_L_changeMark) B.pre
  have ht : ∀ w ∈ jw_tbl, w.before _ s = true := fun w h => hts w (List.mem_cons_of_mem _ h)
  have hown : s.vm.findClass jn_L = some m.cls := findClass_of_methodNamed B.named
  have hlocks := B.notSynchronized
  subst hsz
  have hD := hD0.self (sz := s.heap.size)
  generalize hAe : va_A (([(nn, .inr (1, [.ref gg, .int (nI L0.2)])), (gg, .inl (cG, 30, .inr (.inr (.inr (.inr (jx_o ad))))))] : va_W) ++ jx_r ad cI M) s.heap.size = A at hD ⊢
  have hA : ∀ q : Nat, s.heap.size ≤ q → A q := fun q h => by rw [← hAe]; exact Or.inr h
  have hS : va_S A s.heap s.heap [] := va_S.rf
  have hP : va_P D jw_cl (([(nn, .inr (1, [.ref gg, .int (nI L0.2)])), (gg, .inl (cG, 30, .inr (.inr (.inr (.inr (jx_o ad))))))] : va_W) ++ jx_r ad cI M) s.heap := hP
  have hl := lv_entry ([.ref nn, .int (nI k), .int x]) (n := 3) (Nat.le_of_ble_eq_true rfl)
  rw [lg_entry_eq]
  generalize (lg_sl ([.ref nn, .int (nI k), .int x]) ++ List.replicate (3 - (lg_sl ([.ref nn, .int (nI k), .int x])).length) Slot.unset).toArray = ls at hl ⊢
  have hl : lv_has ls 3 [(0, .ref nn), (1, .int (nI k)), (2, .int x)] := hl
  refine lv_aload_n hx hb d_L_changeMark_0 rfl (lv_at hl 0 rfl) ?_
  refine va_get (D := D) (ci := 1) (v := .ref gg) (C := jn_L) (T := jf_L) (N := 2) hx hb ht ji_L hown hK hP 0 rfl rfl 0 (by decide) (ht _ k_L_13) (fun _ h9 => h9) rfl d_L_changeMark_1 ?_
  refine lv_iload_n hx hb d_L_changeMark_4 rfl (lv_at hl 1 rfl) ?_
  refine jw_ald (v := .ref (ad k)) hx hb hK hP 1 1 rfl rfl rfl (vp_in_nI (by omega) (by decide)) (by rw [show (nI k).toNatClampNeg = k from nI_clamp (by omega)]; exact jx_rf (by omega)) d_L_changeMark_5 ?_
  refine lv_iconst (v := nI 5) hx hb d_L_changeMark_6 (by decide) ?_
  refine lv_dup2_11 hx hb d_L_changeMark_7 rfl rfl ?_
  refine va_iald hx hb hK hP (2 + k) 0 (jx_at rfl (by omega)) rfl (vp_in_nI (by omega) (by decide)) d_L_changeMark_8 ?_
  rw [show (nI 5).toNatClampNeg = 5 from nI_clamp (by omega)]
  rw [show M k 5 = nI ((L0.1 k).2.2.2.2.2) from (hM k hk).2.2.2.2.2]
  refine lv_iload_n hx hb d_L_changeMark_9 rfl (lv_at hl 2 rfl) ?_
  refine lv_sipush (v := nI 255) hx hb d_L_changeMark_10 (by decide) ?_
  refine lv_iand hx hb d_L_changeMark_13 ?_
  refine lv_topi (fun v1 ev1 => ?_)
  obtain rfl : v1 = nI (x.toBitVec.toNat % 2 ^ 8) := ev1.trans (pk_and x 8 (by decide))
  refine lv_ixor hx hb d_L_changeMark_14 ?_
  refine lv_topi (fun v2 ev2 => ?_)
  obtain rfl : v2 = nI ((L0.1 k).2.2.2.2.2 ^^^ (x.toBitVec.toNat % 2 ^ 8)) := ev2.trans (jw_xor0 _ _)
  refine va_iast hx hb hK hP hD hS (2 + k) 0 (jx_at rfl (by omega)) rfl (vp_in_nI (by omega) (by decide)) d_L_changeMark_15 (fun H locs hP hD hS => ?_)
  rw [show (nI 5).toNatClampNeg = 5 from nI_clamp (by omega), jx_set (X := [(nn, .inr (1, [.ref gg, .int (nI L0.2)])), (gg, .inl (cG, 30, .inr (.inr (.inr (.inr (jx_o ad))))))]) (n := 2) (k := k) rfl (by omega)] at hP hD
  generalize hM3 : va_up M k (upd (M k) 5 (nI ((L0.1 k).2.2.2.2.2 ^^^ (x.toBitVec.toNat % 2 ^ 8)))) = M3 at hP hD
  exact W.vret hx hb hr (fun t9 ht9 hW9 => ⟨⟨M3, rfl, by rw [← hM3]; exact jt_rm_hm hM, by rw [ht9]; exact hP, hD⟩, hS.F ht9⟩) hS.2.2 d_L_changeMark_16
