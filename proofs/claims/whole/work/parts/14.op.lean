set_option maxHeartbeats 4000000 in
set_option maxRecDepth 100000 in
theorem m_O_kindOf (l : Launch) (D : va_G) (o : jt_O) (ho : jt_sm o) : Met l y_O_kindOf w_O_kindOf ({ frames := 0, cells := 0, slots := 0, locals := 0 }) (jw_P [.int (nI (jt_po o))] D jw_cl [] []) (k2_QcV (.int (nI o.1))) 0 0 (fun _ => False) := by
  refine Met.ofW (cc := c_O_kindOf) (maxL := 1) (ret := (some .int)) (by decide) rfl ?_
  intro pg0 en0 s m args below meth cd0 s₁ B hml hv
  obtain ⟨rfl, hP, hK⟩ := hv
  have hx := B.exec
  have hb := B.bytes
  have hr := B.returns
  have hts := atoms_spec (ws := w_O_kindOf) B.pre
  have ht : ∀ w ∈ jw_tbl, w.before _ s = true := fun w h => hts w (List.mem_cons_of_mem _ h)
  have hown : s.vm.findClass jn_O = some m.cls := findClass_of_methodNamed B.named
  have hlocks := B.notSynchronized
  have hl := lv_entry ([.int (nI (jt_po o))]) (n := 1) (Nat.le_of_ble_eq_true rfl)
  rw [lg_entry_eq]
  generalize (lg_sl ([.int (nI (jt_po o))]) ++ List.replicate (1 - (lg_sl ([.int (nI (jt_po o))])).length) Slot.unset).toArray = ls at hl ⊢
  have hl : lv_has ls 1 [(0, .int (nI (jt_po o)))] := hl
  refine lv_iload_n hx hb d_O_kindOf_0 rfl (lv_at hl 0 rfl) ?_
  refine lv_iconst (v := nI 3) hx hb d_O_kindOf_1 (by decide) ?_
  refine lv_iand hx hb d_O_kindOf_2 ?_
  refine lv_topi (fun v1 ev1 => ?_)
  obtain rfl : v1 = nI o.1 := ev1.trans (jw_kind ho)
  exact W.iret (v := nI o.1) hx hb hr (fun t9 ht9 _ => ⟨rfl, ht9⟩) (fun q h => by cases h) d_O_kindOf_3

set_option maxHeartbeats 4000000 in
set_option maxRecDepth 100000 in
theorem m_O_siteOf (l : Launch) (D : va_G) (o : jt_O) (ho : jt_sm o) : Met l y_O_siteOf w_O_siteOf ({ frames := 0, cells := 0, slots := 0, locals := 0 }) (jw_P [.int (nI (jt_po o))] D jw_cl [] []) (k2_QcV (.int (nI o.2.2.2))) 0 0 (fun _ => False) := by
  refine Met.ofW (cc := c_O_siteOf) (maxL := 1) (ret := (some .int)) (by decide) rfl ?_
  intro pg0 en0 s m args below meth cd0 s₁ B hml hv
  obtain ⟨rfl, hP, hK⟩ := hv
  have hx := B.exec
  have hb := B.bytes
  have hr := B.returns
  have hts := atoms_spec (ws := w_O_siteOf) B.pre
  have ht : ∀ w ∈ jw_tbl, w.before _ s = true := fun w h => hts w (List.mem_cons_of_mem _ h)
  have hown : s.vm.findClass jn_O = some m.cls := findClass_of_methodNamed B.named
  have hlocks := B.notSynchronized
  have hl := lv_entry ([.int (nI (jt_po o))]) (n := 1) (Nat.le_of_ble_eq_true rfl)
  rw [lg_entry_eq]
  generalize (lg_sl ([.int (nI (jt_po o))]) ++ List.replicate (1 - (lg_sl ([.int (nI (jt_po o))])).length) Slot.unset).toArray = ls at hl ⊢
  have hl : lv_has ls 1 [(0, .int (nI (jt_po o)))] := hl
  refine lv_iload_n hx hb d_O_siteOf_0 rfl (lv_at hl 0 rfl) ?_
  refine lv_iconst (v := nI 2) hx hb d_O_siteOf_1 (by decide) ?_
  refine lv_ishr hx hb d_O_siteOf_2 ?_
  refine lv_iconst (v := nI 3) hx hb d_O_siteOf_3 (by decide) ?_
  refine lv_iand hx hb d_O_siteOf_4 ?_
  refine lv_topi (fun v1 ev1 => ?_)
  obtain rfl : v1 = nI o.2.2.2 := ev1.trans (jw_site ho)
  exact W.iret (v := nI o.2.2.2) hx hb hr (fun t9 ht9 _ => ⟨rfl, ht9⟩) (fun q h => by cases h) d_O_siteOf_5

set_option maxHeartbeats 4000000 in
set_option maxRecDepth 100000 in
theorem m_O_characterOf (l : Launch) (D : va_G) (o : jt_O) (ho : jt_sm o) : Met l y_O_characterOf w_O_characterOf ({ frames := 0, cells := 0, slots := 0, locals := 0 }) (jw_P [.int (nI (jt_po o))] D jw_cl [] []) (k2_QcV (.int (nI o.2.2.1))) 0 0 (fun _ => False) := by
  refine Met.ofW (cc := c_O_characterOf) (maxL := 1) (ret := (some .int)) (by decide) rfl ?_
  intro pg0 en0 s m args below meth cd0 s₁ B hml hv
  obtain ⟨rfl, hP, hK⟩ := hv
  have hx := B.exec
  have hb := B.bytes
  have hr := B.returns
  have hts := atoms_spec (ws := w_O_characterOf) B.pre
  have ht : ∀ w ∈ jw_tbl, w.before _ s = true := fun w h => hts w (List.mem_cons_of_mem _ h)
  have hown : s.vm.findClass jn_O = some m.cls := findClass_of_methodNamed B.named
  have hlocks := B.notSynchronized
  have hl := lv_entry ([.int (nI (jt_po o))]) (n := 1) (Nat.le_of_ble_eq_true rfl)
  rw [lg_entry_eq]
  generalize (lg_sl ([.int (nI (jt_po o))]) ++ List.replicate (1 - (lg_sl ([.int (nI (jt_po o))])).length) Slot.unset).toArray = ls at hl ⊢
  have hl : lv_has ls 1 [(0, .int (nI (jt_po o)))] := hl
  refine lv_iload_n hx hb d_O_characterOf_0 rfl (lv_at hl 0 rfl) ?_
  refine lv_iconst (v := nI 4) hx hb d_O_characterOf_1 (by decide) ?_
  refine lv_ishr hx hb d_O_characterOf_2 ?_
  refine lv_bipush (v := nI 127) hx hb d_O_characterOf_3 (by decide) ?_
  refine lv_iand hx hb d_O_characterOf_5 ?_
  refine lv_topi (fun v1 ev1 => ?_)
  obtain rfl : v1 = nI o.2.2.1 := ev1.trans (jw_char ho)
  exact W.iret (v := nI o.2.2.1) hx hb hr (fun t9 ht9 _ => ⟨rfl, ht9⟩) (fun q h => by cases h) d_O_characterOf_6

set_option maxHeartbeats 4000000 in
set_option maxRecDepth 100000 in
theorem m_O_positionOf (l : Launch) (D : va_G) (o : jt_O) (ho : jt_sm o) : Met l y_O_positionOf w_O_positionOf ({ frames := 0, cells := 0, slots := 0, locals := 0 }) (jw_P [.int (nI (jt_po o))] D jw_cl [] []) (k2_QcV (.int (nI o.2.1))) 0 0 (fun _ => False) := by
  refine Met.ofW (cc := c_O_positionOf) (maxL := 1) (ret := (some .int)) (by decide) rfl ?_
  intro pg0 en0 s m args below meth cd0 s₁ B hml hv
  obtain ⟨rfl, hP, hK⟩ := hv
  have hx := B.exec
  have hb := B.bytes
  have hr := B.returns
  have hts := atoms_spec (ws := w_O_positionOf) B.pre
  have ht : ∀ w ∈ jw_tbl, w.before _ s = true := fun w h => hts w (List.mem_cons_of_mem _ h)
  have hown : s.vm.findClass jn_O = some m.cls := findClass_of_methodNamed B.named
  have hlocks := B.notSynchronized
  have hl := lv_entry ([.int (nI (jt_po o))]) (n := 1) (Nat.le_of_ble_eq_true rfl)
  rw [lg_entry_eq]
  generalize (lg_sl ([.int (nI (jt_po o))]) ++ List.replicate (1 - (lg_sl ([.int (nI (jt_po o))])).length) Slot.unset).toArray = ls at hl ⊢
  have hl : lv_has ls 1 [(0, .int (nI (jt_po o)))] := hl
  refine lv_iload_n hx hb d_O_positionOf_0 rfl (lv_at hl 0 rfl) ?_
  refine lv_bipush (v := nI 11) hx hb d_O_positionOf_1 (by decide) ?_
  refine lv_ishr hx hb d_O_positionOf_3 ?_
  refine lv_topi (fun v1 ev1 => ?_)
  obtain rfl : v1 = nI o.2.1 := ev1.trans (jw_pos ho)
  exact W.iret (v := nI o.2.1) hx hb hr (fun t9 ht9 _ => ⟨rfl, ht9⟩) (fun q h => by cases h) d_O_positionOf_4

set_option maxHeartbeats 4000000 in
set_option maxRecDepth 100000 in
theorem m_O_of (l : Launch) (D : va_G) (k0 p0 c0 s0 : Nat) (hk : k0 < 4) (hp : p0 < 2 ^ 20) (hc : c0 < 128) (hs : s0 < 4) : Met l y_O_of w_O_of ({ frames := 0, cells := 0, slots := 0, locals := 0 }) (jw_P [.int (nI k0), .int (nI p0), .int (nI c0), .int (nI s0)] D jw_cl [] []) (k2_QcV (.int (nI (jt_pk k0 p0 c0 s0)))) 0 0 (fun _ => False) := by
  refine Met.ofW (cc := c_O_of) (maxL := 4) (ret := (some .int)) (by decide) rfl ?_
  intro pg0 en0 s m args below meth cd0 s₁ B hml hv
  obtain ⟨rfl, hP, hK⟩ := hv
  have hx := B.exec
  have hb := B.bytes
  have hr := B.returns
  have hts := atoms_spec (ws := w_O_of) B.pre
  have ht : ∀ w ∈ jw_tbl, w.before _ s = true := fun w h => hts w (List.mem_cons_of_mem _ h)
  have hown : s.vm.findClass jn_O = some m.cls := findClass_of_methodNamed B.named
  have hlocks := B.notSynchronized
  have hl := lv_entry ([.int (nI k0), .int (nI p0), .int (nI c0), .int (nI s0)]) (n := 4) (Nat.le_of_ble_eq_true rfl)
  rw [lg_entry_eq]
  generalize (lg_sl ([.int (nI k0), .int (nI p0), .int (nI c0), .int (nI s0)]) ++ List.replicate (4 - (lg_sl ([.int (nI k0), .int (nI p0), .int (nI c0), .int (nI s0)])).length) Slot.unset).toArray = ls at hl ⊢
  have hl : lv_has ls 4 [(0, .int (nI k0)), (1, .int (nI p0)), (2, .int (nI c0)), (3, .int (nI s0))] := hl
  refine lv_iload_n hx hb d_O_of_0 rfl (lv_at hl 0 rfl) ?_
  refine lv_iload_n hx hb d_O_of_1 rfl (lv_at hl 3 rfl) ?_
  refine lv_iconst (v := nI 2) hx hb d_O_of_2 (by decide) ?_
  refine lv_ishl hx hb d_O_of_3 ?_
  refine lv_topi (fun v1 ev1 => ?_)
  obtain rfl : v1 = nI (4 * s0) := ev1.trans (jw_shl2 (by omega))
  refine lv_ior hx hb d_O_of_4 ?_
  refine lv_topi (fun v2 ev2 => ?_)
  obtain rfl : v2 = nI (k0 + 4 * s0) := ev2.trans (jw_or 2 rfl (by omega))
  refine lv_iload_n hx hb d_O_of_5 rfl (lv_at hl 2 rfl) ?_
  refine lv_iconst (v := nI 4) hx hb d_O_of_6 (by decide) ?_
  refine lv_ishl hx hb d_O_of_7 ?_
  refine lv_topi (fun v3 ev3 => ?_)
  obtain rfl : v3 = nI (16 * c0) := ev3.trans (jw_shl4 (by omega))
  refine lv_ior hx hb d_O_of_8 ?_
  refine lv_topi (fun v4 ev4 => ?_)
  obtain rfl : v4 = nI (k0 + 4 * s0 + 16 * c0) := ev4.trans (jw_or 4 rfl (by omega))
  refine lv_iload_n hx hb d_O_of_9 rfl (lv_at hl 1 rfl) ?_
  refine lv_bipush (v := nI 11) hx hb d_O_of_10 (by decide) ?_
  refine lv_ishl hx hb d_O_of_12 ?_
  refine lv_topi (fun v5 ev5 => ?_)
  obtain rfl : v5 = nI (2048 * p0) := ev5.trans (jw_shl11 (by omega))
  refine lv_ior hx hb d_O_of_13 ?_
  refine lv_topi (fun v6 ev6 => ?_)
  obtain rfl : v6 = nI (k0 + 4 * s0 + 16 * c0 + 2048 * p0) := ev6.trans (jw_or 11 rfl (by omega))
  exact W.iret (v := nI (k0 + 4 * s0 + 16 * c0 + 2048 * p0)) hx hb hr (fun t9 ht9 _ => ⟨rfl, ht9⟩) (fun q h => by cases h) d_O_of_14

set_option maxHeartbeats 4000000 in
set_option maxRecDepth 100000 in
theorem m_O_nothingOf (l : Launch) (D : va_G) (s0 : Nat) (hs : s0 < 4) : Met l y_O_nothingOf w_O_nothingOf ({ frames := 1, cells := 0, slots := 0, locals := 23 }) (jw_P [.int (nI s0)] D jw_cl [] []) (k2_QcV (.int (nI (jt_po (0, 0, 0, s0))))) 0 0 (fun _ => False) := by
  refine Met.ofW (cc := c_O_nothingOf) (maxL := 1) (ret := (some .int)) (by decide) rfl ?_
  intro pg0 en0 s m args below meth cd0 s₁ B hml hv
  obtain ⟨rfl, hP, hK⟩ := hv
  have hx := B.exec
  have hb := B.bytes
  have hr := B.returns
  have hts := atoms_spec (ws := w_O_nothingOf) B.pre
  have ht : ∀ w ∈ jw_tbl, w.before _ s = true := fun w h => hts w (List.mem_cons_of_mem _ h)
  have hown : s.vm.findClass jn_O = some m.cls := findClass_of_methodNamed B.named
  have hlocks := B.notSynchronized
  have hl := lv_entry ([.int (nI s0)]) (n := 1) (Nat.le_of_ble_eq_true rfl)
  rw [lg_entry_eq]
  generalize (lg_sl ([.int (nI s0)]) ++ List.replicate (1 - (lg_sl ([.int (nI s0)])).length) Slot.unset).toArray = ls at hl ⊢
  have hl : lv_has ls 1 [(0, .int (nI s0))] := hl
  refine lv_iconst (v := nI 0) hx hb d_O_nothingOf_0 (by decide) ?_
  refine lv_iconst (v := nI 0) hx hb d_O_nothingOf_1 (by decide) ?_
  refine lv_iconst (v := nI 0) hx hb d_O_nothingOf_2 (by decide) ?_
  refine lv_iload_n hx hb d_O_nothingOf_3 rfl (lv_at hl 0 rfl) ?_
  refine jw_rS (As := [.int (nI 0), .int (nI 0), .int (nI 0), .int (nI s0)]) (rest := []) hx hb hml hown ht (m_O_of l D 0 0 0 s0 (by omega) (by omega) (by omega) (by omega)) (o_O_of) k_O_11 rfl rfl ⟨Nat.le_of_ble_eq_true rfl, Nat.le_of_ble_eq_true rfl⟩ (hP.sub [] rfl) (hK.sub [] rfl) rfl hl.1 rfl (Nat.le_of_ble_eq_true rfl) d_O_nothingOf_4 ⟨Nat.zero_le _, Nat.zero_le _⟩ ?_
  exact W.iret (v := nI (jt_pk 0 0 0 s0)) hx hb hr (fun t9 ht9 _ => ⟨rfl, ht9⟩) (fun q h => by cases h) d_O_nothingOf_7

set_option maxHeartbeats 4000000 in
set_option maxRecDepth 100000 in
theorem m_O_shifted_p (l : Launch) (D : va_G) (a : jt_O) (ha : jt_sm a) (h1 : a.1 < 4) (h2 : a.2.1 < 1000) (h3 : a.2.2.1 < 128) (h4 : a.2.2.2 < 4) : Met l y_O_shifted w_O_shifted ({ frames := 1, cells := 0, slots := 0, locals := 23 }) (jw_P [.int (nI (jt_po a)), .int (nI 1)] D jw_cl [] []) (k2_QcV (.int (nI (jt_po (a.1, a.2.1 + 1, a.2.2.1, a.2.2.2))))) 0 0 (fun _ => False) := by
  refine Met.ofW (cc := c_O_shifted) (maxL := 2) (ret := (some .int)) (by decide) rfl ?_
  intro pg0 en0 s m args below meth cd0 s₁ B hml hv
  obtain ⟨rfl, hP, hK⟩ := hv
  have hx := B.exec
  have hb := B.bytes
  have hr := B.returns
  have hts := atoms_spec (ws := w_O_shifted) B.pre
  have ht : ∀ w ∈ jw_tbl, w.before _ s = true := fun w h => hts w (List.mem_cons_of_mem _ h)
  have hown : s.vm.findClass jn_O = some m.cls := findClass_of_methodNamed B.named
  have hlocks := B.notSynchronized
  have hl := lv_entry ([.int (nI (jt_po a)), .int (nI 1)]) (n := 2) (Nat.le_of_ble_eq_true rfl)
  rw [lg_entry_eq]
  generalize (lg_sl ([.int (nI (jt_po a)), .int (nI 1)]) ++ List.replicate (2 - (lg_sl ([.int (nI (jt_po a)), .int (nI 1)])).length) Slot.unset).toArray = ls at hl ⊢
  have hl : lv_has ls 2 [(0, .int (nI (jt_po a))), (1, .int (nI 1))] := hl
  refine lv_iload_n hx hb d_O_shifted_0 rfl (lv_at hl 0 rfl) ?_
  refine jw_rS (As := [.int (nI (jt_po a))]) (rest := []) hx hb hml hown ht (m_O_kindOf l D a ha) (o_O_kindOf) k_O_15 rfl rfl ⟨Nat.le_of_ble_eq_true rfl, Nat.le_of_ble_eq_true rfl⟩ (hP.sub [] rfl) (hK.sub [] rfl) rfl hl.1 rfl (Nat.le_of_ble_eq_true rfl) d_O_shifted_1 ⟨Nat.zero_le _, Nat.zero_le _⟩ ?_
  refine lv_iload_n hx hb d_O_shifted_4 rfl (lv_at hl 0 rfl) ?_
  refine jw_rS (As := [.int (nI (jt_po a))]) (rest := [.int (nI a.1)]) hx hb hml hown ht (m_O_positionOf l D a ha) (o_O_positionOf) k_O_19 rfl rfl ⟨Nat.le_of_ble_eq_true rfl, Nat.le_of_ble_eq_true rfl⟩ (hP.sub [] rfl) (hK.sub [] rfl) rfl hl.1 rfl (Nat.le_of_ble_eq_true rfl) d_O_shifted_5 ⟨Nat.zero_le _, Nat.zero_le _⟩ ?_
  refine lv_iload_n hx hb d_O_shifted_8 rfl (lv_at hl 1 rfl) ?_
  refine lv_iadd hx hb d_O_shifted_9 ?_
  refine lv_topi (fun v1 ev1 => ?_)
  obtain rfl : v1 = nI (a.2.1 + 1) := ev1.trans (nI_add _ _)
  refine lv_iload_n hx hb d_O_shifted_10 rfl (lv_at hl 0 rfl) ?_
  refine jw_rS (As := [.int (nI (jt_po a))]) (rest := [.int (nI (a.2.1 + 1)), .int (nI a.1)]) hx hb hml hown ht (m_O_characterOf l D a ha) (o_O_characterOf) k_O_38 rfl rfl ⟨Nat.le_of_ble_eq_true rfl, Nat.le_of_ble_eq_true rfl⟩ (hP.sub [] rfl) (hK.sub [] rfl) rfl hl.1 rfl (Nat.le_of_ble_eq_true rfl) d_O_shifted_11 ⟨Nat.zero_le _, Nat.zero_le _⟩ ?_
  refine lv_iload_n hx hb d_O_shifted_14 rfl (lv_at hl 0 rfl) ?_
  refine jw_rS (As := [.int (nI (jt_po a))]) (rest := [.int (nI a.2.2.1), .int (nI (a.2.1 + 1)), .int (nI a.1)]) hx hb hml hown ht (m_O_siteOf l D a ha) (o_O_siteOf) k_O_29 rfl rfl ⟨Nat.le_of_ble_eq_true rfl, Nat.le_of_ble_eq_true rfl⟩ (hP.sub [] rfl) (hK.sub [] rfl) rfl hl.1 rfl (Nat.le_of_ble_eq_true rfl) d_O_shifted_15 ⟨Nat.zero_le _, Nat.zero_le _⟩ ?_
  refine jw_rS (As := [.int (nI a.1), .int (nI (a.2.1 + 1)), .int (nI a.2.2.1), .int (nI a.2.2.2)]) (rest := []) hx hb hml hown ht (m_O_of l D a.1 (a.2.1 + 1) a.2.2.1 a.2.2.2 (by omega) (by omega) (by omega) (by omega)) (o_O_of) k_O_11 rfl rfl ⟨Nat.le_of_ble_eq_true rfl, Nat.le_of_ble_eq_true rfl⟩ (hP.sub [] rfl) (hK.sub [] rfl) rfl hl.1 rfl (Nat.le_of_ble_eq_true rfl) d_O_shifted_18 ⟨Nat.zero_le _, Nat.zero_le _⟩ ?_
  exact W.iret (v := nI (jt_pk a.1 (a.2.1 + 1) a.2.2.1 a.2.2.2)) hx hb hr (fun t9 ht9 _ => ⟨rfl, ht9⟩) (fun q h => by cases h) d_O_shifted_21

set_option maxHeartbeats 4000000 in
set_option maxRecDepth 100000 in
theorem m_O_shifted_m (l : Launch) (D : va_G) (a : jt_O) (ha : jt_sm a) (h1 : a.1 < 4) (h2 : a.2.1 < 1000) (h3 : a.2.2.1 < 128) (h4 : a.2.2.2 < 4) (h5 : 0 < a.2.1) : Met l y_O_shifted w_O_shifted ({ frames := 1, cells := 0, slots := 0, locals := 23 }) (jw_P [.int (nI (jt_po a)), .int (-1)] D jw_cl [] []) (k2_QcV (.int (nI (jt_po (a.1, a.2.1 - 1, a.2.2.1, a.2.2.2))))) 0 0 (fun _ => False) := by
  refine Met.ofW (cc := c_O_shifted) (maxL := 2) (ret := (some .int)) (by decide) rfl ?_
  intro pg0 en0 s m args below meth cd0 s₁ B hml hv
  obtain ⟨rfl, hP, hK⟩ := hv
  have hx := B.exec
  have hb := B.bytes
  have hr := B.returns
  have hts := atoms_spec (ws := w_O_shifted) B.pre
  have ht : ∀ w ∈ jw_tbl, w.before _ s = true := fun w h => hts w (List.mem_cons_of_mem _ h)
  have hown : s.vm.findClass jn_O = some m.cls := findClass_of_methodNamed B.named
  have hlocks := B.notSynchronized
  have hl := lv_entry ([.int (nI (jt_po a)), .int (-1)]) (n := 2) (Nat.le_of_ble_eq_true rfl)
  rw [lg_entry_eq]
  generalize (lg_sl ([.int (nI (jt_po a)), .int (-1)]) ++ List.replicate (2 - (lg_sl ([.int (nI (jt_po a)), .int (-1)])).length) Slot.unset).toArray = ls at hl ⊢
  have hl : lv_has ls 2 [(0, .int (nI (jt_po a))), (1, .int (-1))] := hl
  refine lv_iload_n hx hb d_O_shifted_0 rfl (lv_at hl 0 rfl) ?_
  refine jw_rS (As := [.int (nI (jt_po a))]) (rest := []) hx hb hml hown ht (m_O_kindOf l D a ha) (o_O_kindOf) k_O_15 rfl rfl ⟨Nat.le_of_ble_eq_true rfl, Nat.le_of_ble_eq_true rfl⟩ (hP.sub [] rfl) (hK.sub [] rfl) rfl hl.1 rfl (Nat.le_of_ble_eq_true rfl) d_O_shifted_1 ⟨Nat.zero_le _, Nat.zero_le _⟩ ?_
  refine lv_iload_n hx hb d_O_shifted_4 rfl (lv_at hl 0 rfl) ?_
  refine jw_rS (As := [.int (nI (jt_po a))]) (rest := [.int (nI a.1)]) hx hb hml hown ht (m_O_positionOf l D a ha) (o_O_positionOf) k_O_19 rfl rfl ⟨Nat.le_of_ble_eq_true rfl, Nat.le_of_ble_eq_true rfl⟩ (hP.sub [] rfl) (hK.sub [] rfl) rfl hl.1 rfl (Nat.le_of_ble_eq_true rfl) d_O_shifted_5 ⟨Nat.zero_le _, Nat.zero_le _⟩ ?_
  refine lv_iload_n hx hb d_O_shifted_8 rfl (lv_at hl 1 rfl) ?_
  refine lv_iadd hx hb d_O_shifted_9 ?_
  refine lv_topi (fun v1 ev1 => ?_)
  obtain rfl : v1 = nI (a.2.1 - 1) := ev1.trans (sb_m1 h5)
  refine lv_iload_n hx hb d_O_shifted_10 rfl (lv_at hl 0 rfl) ?_
  refine jw_rS (As := [.int (nI (jt_po a))]) (rest := [.int (nI (a.2.1 - 1)), .int (nI a.1)]) hx hb hml hown ht (m_O_characterOf l D a ha) (o_O_characterOf) k_O_38 rfl rfl ⟨Nat.le_of_ble_eq_true rfl, Nat.le_of_ble_eq_true rfl⟩ (hP.sub [] rfl) (hK.sub [] rfl) rfl hl.1 rfl (Nat.le_of_ble_eq_true rfl) d_O_shifted_11 ⟨Nat.zero_le _, Nat.zero_le _⟩ ?_
  refine lv_iload_n hx hb d_O_shifted_14 rfl (lv_at hl 0 rfl) ?_
  refine jw_rS (As := [.int (nI (jt_po a))]) (rest := [.int (nI a.2.2.1), .int (nI (a.2.1 - 1)), .int (nI a.1)]) hx hb hml hown ht (m_O_siteOf l D a ha) (o_O_siteOf) k_O_29 rfl rfl ⟨Nat.le_of_ble_eq_true rfl, Nat.le_of_ble_eq_true rfl⟩ (hP.sub [] rfl) (hK.sub [] rfl) rfl hl.1 rfl (Nat.le_of_ble_eq_true rfl) d_O_shifted_15 ⟨Nat.zero_le _, Nat.zero_le _⟩ ?_
  refine jw_rS (As := [.int (nI a.1), .int (nI (a.2.1 - 1)), .int (nI a.2.2.1), .int (nI a.2.2.2)]) (rest := []) hx hb hml hown ht (m_O_of l D a.1 (a.2.1 - 1) a.2.2.1 a.2.2.2 (by omega) (by omega) (by omega) (by omega)) (o_O_of) k_O_11 rfl rfl ⟨Nat.le_of_ble_eq_true rfl, Nat.le_of_ble_eq_true rfl⟩ (hP.sub [] rfl) (hK.sub [] rfl) rfl hl.1 rfl (Nat.le_of_ble_eq_true rfl) d_O_shifted_18 ⟨Nat.zero_le _, Nat.zero_le _⟩ ?_
  exact W.iret (v := nI (jt_pk a.1 (a.2.1 - 1) a.2.2.1 a.2.2.2)) hx hb hr (fun t9 ht9 _ => ⟨rfl, ht9⟩) (fun q h => by cases h) d_O_shifted_21

def jt_mvi (a b : jt_O) : jt_O := if a.1 = 1 ∧ a.2.1 = b.2.1 ∧ a.2.2.2 < b.2.2.2 then a else (a.1, a.2.1 + 1, a.2.2.1, a.2.2.2)
def jt_mve (a b : jt_O) : jt_O := if b.2.1 < a.2.1 then (a.1, a.2.1 - 1, a.2.2.1, a.2.2.2) else if a.1 = 1 then a else (0, 0, 0, a.2.2.2)

set_option maxHeartbeats 4000000 in
set_option maxRecDepth 100000 in
theorem m_O_movedOverInsert (l : Launch) (D : va_G) (a b : jt_O) (ha : jt_sm a) (hb0 : jt_sm b) : Met l y_O_movedOverInsert w_O_movedOverInsert ({ frames := 2, cells := 0, slots := 0, locals := 44 }) (jw_P [.int (nI (jt_po a)), .int (nI (jt_po b))] D jw_cl [] []) (k2_QcV (.int (nI (jt_po (jt_mvi a b))))) 0 0 (fun _ => False) := by
  refine Met.ofW (cc := c_O_movedOverInsert) (maxL := 3) (ret := (some .int)) (by decide) rfl ?_
  intro pg0 en0 s m args below meth cd0 s₁ B hml hv
  obtain ⟨rfl, hP, hK⟩ := hv
  have hx := B.exec
  have hb := B.bytes
  have hr := B.returns
  have hts := atoms_spec (ws := w_O_movedOverInsert) B.pre
  have ht : ∀ w ∈ jw_tbl, w.before _ s = true := fun w h => hts w (List.mem_cons_of_mem _ h)
  have hown : s.vm.findClass jn_O = some m.cls := findClass_of_methodNamed B.named
  have hlocks := B.notSynchronized
  have hl := lv_entry ([.int (nI (jt_po a)), .int (nI (jt_po b))]) (n := 3) (Nat.le_of_ble_eq_true rfl)
  rw [lg_entry_eq]
  generalize (lg_sl ([.int (nI (jt_po a)), .int (nI (jt_po b))]) ++ List.replicate (3 - (lg_sl ([.int (nI (jt_po a)), .int (nI (jt_po b))])).length) Slot.unset).toArray = ls at hl ⊢
  have hl : lv_has ls 3 [(0, .int (nI (jt_po a))), (1, .int (nI (jt_po b)))] := hl
  obtain ⟨a1, a2, a3, a4⟩ := id ha
  obtain ⟨b1, b2, b3, b4⟩ := id hb0
  refine lv_iload_n hx hb d_O_movedOverInsert_0 rfl (lv_at hl 0 rfl) ?_
  refine jw_rS (As := [.int (nI (jt_po a))]) (rest := []) hx hb hml hown ht (m_O_kindOf l D a ha) (o_O_kindOf) k_O_15 rfl rfl ⟨Nat.le_of_ble_eq_true rfl, Nat.le_of_ble_eq_true rfl⟩ (hP.sub [] rfl) (hK.sub [] rfl) rfl hl.1 rfl (Nat.le_of_ble_eq_true rfl) d_O_movedOverInsert_1 ⟨Nat.zero_le _, Nat.zero_le _⟩ ?_
  refine lv_iconst (v := nI 1) hx hb d_O_movedOverInsert_4 (by decide) ?_
  refine lv_icmp_ne (tgt := 23) hx hb d_O_movedOverInsert_5 (by decide) (fun h5 => ?_) (fun h5 => ?_)
  · skip
    have h5 := jw_ne (by omega) (by omega) h5
    refine lv_iconst (v := nI 0) hx hb d_O_movedOverInsert_23 (by decide) ?_
    refine lv_istore_n (lv' := [(2, .int (nI 0)), (0, .int (nI (jt_po a))), (1, .int (nI (jt_po b)))]) hx hb d_O_movedOverInsert_24 rfl hl (by decide) rfl (fun ls hl => ?_)
    refine lv_iload_n hx hb d_O_movedOverInsert_25 rfl (lv_at hl 0 rfl) ?_
    refine lv_if_eq (tgt := 44) hx hb d_O_movedOverInsert_26 (by decide) (fun h26 => ?_) (fun h26 => absurd (jw_ne0 (by omega) h26) (by omega))
    have h26 := jw_eq0 (by omega) h26
    refine lv_iload_n hx hb d_O_movedOverInsert_44 rfl (lv_at hl 1 rfl) ?_
    refine lv_iconst (v := nI 1) hx hb d_O_movedOverInsert_45 (by decide) ?_
    refine jw_rS (As := [.int (nI (jt_po a)), .int (nI 1)]) (rest := []) hx hb hml hown ht (m_O_shifted_p l D a ha ha.1 ha.2.1 ha.2.2.1 ha.2.2.2) (o_O_shifted) k_O_32 rfl rfl ⟨Nat.le_of_ble_eq_true rfl, Nat.le_of_ble_eq_true rfl⟩ (hP.sub [] rfl) (hK.sub [] rfl) rfl hl.1 rfl (Nat.le_of_ble_eq_true rfl) d_O_movedOverInsert_46 ⟨Nat.zero_le _, Nat.zero_le _⟩ ?_
    exact W.iret (v := nI (jt_po (a.1, a.2.1 + 1, a.2.2.1, a.2.2.2))) hx hb hr (fun t9 ht9 _ => ⟨congrArg (fun z => Outcome.returned (some (Value.int z))) (by unfold jt_mvi; first | rw [if_pos (by omega)] | (rw [if_neg (by omega)]; first | done | rw [if_pos (by omega)] | rw [if_neg (by omega)])), ht9⟩) (fun q h => by cases h) d_O_movedOverInsert_49
  · skip
    have h5 := jw_eq (by omega) (by omega) h5
    refine lv_iload_n hx hb d_O_movedOverInsert_8 rfl (lv_at hl 0 rfl) ?_
    refine jw_rS (As := [.int (nI (jt_po a))]) (rest := []) hx hb hml hown ht (m_O_positionOf l D a ha) (o_O_positionOf) k_O_19 rfl rfl ⟨Nat.le_of_ble_eq_true rfl, Nat.le_of_ble_eq_true rfl⟩ (hP.sub [] rfl) (hK.sub [] rfl) rfl hl.1 rfl (Nat.le_of_ble_eq_true rfl) d_O_movedOverInsert_9 ⟨Nat.zero_le _, Nat.zero_le _⟩ ?_
    refine lv_iload_n hx hb d_O_movedOverInsert_12 rfl (lv_at hl 1 rfl) ?_
    refine jw_rS (As := [.int (nI (jt_po b))]) (rest := [.int (nI a.2.1)]) hx hb hml hown ht (m_O_positionOf l D b hb0) (o_O_positionOf) k_O_19 rfl rfl ⟨Nat.le_of_ble_eq_true rfl, Nat.le_of_ble_eq_true rfl⟩ (hP.sub [] rfl) (hK.sub [] rfl) rfl hl.1 rfl (Nat.le_of_ble_eq_true rfl) d_O_movedOverInsert_13 ⟨Nat.zero_le _, Nat.zero_le _⟩ ?_
    refine lv_icmp_ne (tgt := 23) hx hb d_O_movedOverInsert_16 (by decide) (fun h16 => ?_) (fun h16 => ?_)
    · skip
      have h16 := jw_ne (by omega) (by omega) h16
      refine lv_iconst (v := nI 0) hx hb d_O_movedOverInsert_23 (by decide) ?_
      refine lv_istore_n (lv' := [(2, .int (nI 0)), (0, .int (nI (jt_po a))), (1, .int (nI (jt_po b)))]) hx hb d_O_movedOverInsert_24 rfl hl (by decide) rfl (fun ls hl => ?_)
      refine lv_iload_n hx hb d_O_movedOverInsert_25 rfl (lv_at hl 0 rfl) ?_
      refine lv_if_eq (tgt := 44) hx hb d_O_movedOverInsert_26 (by decide) (fun h26 => ?_) (fun h26 => absurd (jw_ne0 (by omega) h26) (by omega))
      have h26 := jw_eq0 (by omega) h26
      refine lv_iload_n hx hb d_O_movedOverInsert_44 rfl (lv_at hl 1 rfl) ?_
      refine lv_iconst (v := nI 1) hx hb d_O_movedOverInsert_45 (by decide) ?_
      refine jw_rS (As := [.int (nI (jt_po a)), .int (nI 1)]) (rest := []) hx hb hml hown ht (m_O_shifted_p l D a ha ha.1 ha.2.1 ha.2.2.1 ha.2.2.2) (o_O_shifted) k_O_32 rfl rfl ⟨Nat.le_of_ble_eq_true rfl, Nat.le_of_ble_eq_true rfl⟩ (hP.sub [] rfl) (hK.sub [] rfl) rfl hl.1 rfl (Nat.le_of_ble_eq_true rfl) d_O_movedOverInsert_46 ⟨Nat.zero_le _, Nat.zero_le _⟩ ?_
      exact W.iret (v := nI (jt_po (a.1, a.2.1 + 1, a.2.2.1, a.2.2.2))) hx hb hr (fun t9 ht9 _ => ⟨congrArg (fun z => Outcome.returned (some (Value.int z))) (by unfold jt_mvi; first | rw [if_pos (by omega)] | (rw [if_neg (by omega)]; first | done | rw [if_pos (by omega)] | rw [if_neg (by omega)])), ht9⟩) (fun q h => by cases h) d_O_movedOverInsert_49
    · skip
      have h16 := jw_eq (by omega) (by omega) h16
      refine lv_iconst (v := nI 1) hx hb d_O_movedOverInsert_19 (by decide) ?_
      refine lv_goto (tgt := 24) hx hb d_O_movedOverInsert_20 (by decide) ?_
      refine lv_istore_n (lv' := [(2, .int (nI 1)), (0, .int (nI (jt_po a))), (1, .int (nI (jt_po b)))]) hx hb d_O_movedOverInsert_24 rfl hl (by decide) rfl (fun ls hl => ?_)
      refine lv_iload_n hx hb d_O_movedOverInsert_25 rfl (lv_at hl 0 rfl) ?_
      refine lv_if_eq (tgt := 44) hx hb d_O_movedOverInsert_26 (by decide) (fun h26 => absurd (jw_eq0 (by omega) h26) (by omega)) (fun h26 => ?_)
      have h26 := jw_ne0 (by omega) h26
      refine lv_iload_n hx hb d_O_movedOverInsert_29 rfl (lv_at hl 1 rfl) ?_
      refine jw_rS (As := [.int (nI (jt_po a))]) (rest := []) hx hb hml hown ht (m_O_siteOf l D a ha) (o_O_siteOf) k_O_29 rfl rfl ⟨Nat.le_of_ble_eq_true rfl, Nat.le_of_ble_eq_true rfl⟩ (hP.sub [] rfl) (hK.sub [] rfl) rfl hl.1 rfl (Nat.le_of_ble_eq_true rfl) d_O_movedOverInsert_30 ⟨Nat.zero_le _, Nat.zero_le _⟩ ?_
      refine lv_iload_n hx hb d_O_movedOverInsert_33 rfl (lv_at hl 2 rfl) ?_
      refine jw_rS (As := [.int (nI (jt_po b))]) (rest := [.int (nI a.2.2.2)]) hx hb hml hown ht (m_O_siteOf l D b hb0) (o_O_siteOf) k_O_29 rfl rfl ⟨Nat.le_of_ble_eq_true rfl, Nat.le_of_ble_eq_true rfl⟩ (hP.sub [] rfl) (hK.sub [] rfl) rfl hl.1 rfl (Nat.le_of_ble_eq_true rfl) d_O_movedOverInsert_34 ⟨Nat.zero_le _, Nat.zero_le _⟩ ?_
      refine lv_icmp_ge (tgt := 44) hx hb d_O_movedOverInsert_37 (by decide) (fun h37 => ?_) (fun h37 => ?_)
      · skip
        have h37 := jw_ge (by omega) (by omega) h37
        refine lv_iload_n hx hb d_O_movedOverInsert_44 rfl (lv_at hl 1 rfl) ?_
        refine lv_iconst (v := nI 1) hx hb d_O_movedOverInsert_45 (by decide) ?_
        refine jw_rS (As := [.int (nI (jt_po a)), .int (nI 1)]) (rest := []) hx hb hml hown ht (m_O_shifted_p l D a ha ha.1 ha.2.1 ha.2.2.1 ha.2.2.2) (o_O_shifted) k_O_32 rfl rfl ⟨Nat.le_of_ble_eq_true rfl, Nat.le_of_ble_eq_true rfl⟩ (hP.sub [] rfl) (hK.sub [] rfl) rfl hl.1 rfl (Nat.le_of_ble_eq_true rfl) d_O_movedOverInsert_46 ⟨Nat.zero_le _, Nat.zero_le _⟩ ?_
        exact W.iret (v := nI (jt_po (a.1, a.2.1 + 1, a.2.2.1, a.2.2.2))) hx hb hr (fun t9 ht9 _ => ⟨congrArg (fun z => Outcome.returned (some (Value.int z))) (by unfold jt_mvi; first | rw [if_pos (by omega)] | (rw [if_neg (by omega)]; first | done | rw [if_pos (by omega)] | rw [if_neg (by omega)])), ht9⟩) (fun q h => by cases h) d_O_movedOverInsert_49
      · skip
        have h37 := jw_nge (by omega) (by omega) h37
        refine lv_iload_n hx hb d_O_movedOverInsert_40 rfl (lv_at hl 1 rfl) ?_
        refine lv_goto (tgt := 49) hx hb d_O_movedOverInsert_41 (by decide) ?_
        exact W.iret (v := nI (jt_po a)) hx hb hr (fun t9 ht9 _ => ⟨congrArg (fun z => Outcome.returned (some (Value.int z))) (by unfold jt_mvi; first | rw [if_pos (by omega)] | (rw [if_neg (by omega)]; first | done | rw [if_pos (by omega)] | rw [if_neg (by omega)])), ht9⟩) (fun q h => by cases h) d_O_movedOverInsert_49

set_option maxHeartbeats 4000000 in
set_option maxRecDepth 100000 in
theorem m_O_movedOverErase (l : Launch) (D : va_G) (a b : jt_O) (ha : jt_sm a) (hb0 : jt_sm b) : Met l y_O_movedOverErase w_O_movedOverErase ({ frames := 2, cells := 0, slots := 0, locals := 44 }) (jw_P [.int (nI (jt_po a)), .int (nI (jt_po b))] D jw_cl [] []) (k2_QcV (.int (nI (jt_po (jt_mve a b))))) 0 0 (fun _ => False) := by
  refine Met.ofW (cc := c_O_movedOverErase) (maxL := 2) (ret := (some .int)) (by decide) rfl ?_
  intro pg0 en0 s m args below meth cd0 s₁ B hml hv
  obtain ⟨rfl, hP, hK⟩ := hv
  have hx := B.exec
  have hb := B.bytes
  have hr := B.returns
  have hts := atoms_spec (ws := w_O_movedOverErase) B.pre
  have ht : ∀ w ∈ jw_tbl, w.before _ s = true := fun w h => hts w (List.mem_cons_of_mem _ h)
  have hown : s.vm.findClass jn_O = some m.cls := findClass_of_methodNamed B.named
  have hlocks := B.notSynchronized
  have hl := lv_entry ([.int (nI (jt_po a)), .int (nI (jt_po b))]) (n := 2) (Nat.le_of_ble_eq_true rfl)
  rw [lg_entry_eq]
  generalize (lg_sl ([.int (nI (jt_po a)), .int (nI (jt_po b))]) ++ List.replicate (2 - (lg_sl ([.int (nI (jt_po a)), .int (nI (jt_po b))])).length) Slot.unset).toArray = ls at hl ⊢
  have hl : lv_has ls 2 [(0, .int (nI (jt_po a))), (1, .int (nI (jt_po b)))] := hl
  obtain ⟨a1, a2, a3, a4⟩ := id ha
  obtain ⟨b1, b2, b3, b4⟩ := id hb0
  refine lv_iload_n hx hb d_O_movedOverErase_0 rfl (lv_at hl 0 rfl) ?_
  refine jw_rS (As := [.int (nI (jt_po a))]) (rest := []) hx hb hml hown ht (m_O_positionOf l D a ha) (o_O_positionOf) k_O_19 rfl rfl ⟨Nat.le_of_ble_eq_true rfl, Nat.le_of_ble_eq_true rfl⟩ (hP.sub [] rfl) (hK.sub [] rfl) rfl hl.1 rfl (Nat.le_of_ble_eq_true rfl) d_O_movedOverErase_1 ⟨Nat.zero_le _, Nat.zero_le _⟩ ?_
  refine lv_iload_n hx hb d_O_movedOverErase_4 rfl (lv_at hl 1 rfl) ?_
  refine jw_rS (As := [.int (nI (jt_po b))]) (rest := [.int (nI a.2.1)]) hx hb hml hown ht (m_O_positionOf l D b hb0) (o_O_positionOf) k_O_19 rfl rfl ⟨Nat.le_of_ble_eq_true rfl, Nat.le_of_ble_eq_true rfl⟩ (hP.sub [] rfl) (hK.sub [] rfl) rfl hl.1 rfl (Nat.le_of_ble_eq_true rfl) d_O_movedOverErase_5 ⟨Nat.zero_le _, Nat.zero_le _⟩ ?_
  refine lv_icmp_le (tgt := 17) hx hb d_O_movedOverErase_8 (by decide) (fun h8 => ?_) (fun h8 => ?_)
  · skip
    have h8 := jw_le (by omega) (by omega) h8
    refine lv_iload_n hx hb d_O_movedOverErase_17 rfl (lv_at hl 0 rfl) ?_
    refine jw_rS (As := [.int (nI (jt_po a))]) (rest := []) hx hb hml hown ht (m_O_kindOf l D a ha) (o_O_kindOf) k_O_15 rfl rfl ⟨Nat.le_of_ble_eq_true rfl, Nat.le_of_ble_eq_true rfl⟩ (hP.sub [] rfl) (hK.sub [] rfl) rfl hl.1 rfl (Nat.le_of_ble_eq_true rfl) d_O_movedOverErase_18 ⟨Nat.zero_le _, Nat.zero_le _⟩ ?_
    refine lv_iconst (v := nI 1) hx hb d_O_movedOverErase_21 (by decide) ?_
    refine lv_icmp_ne (tgt := 29) hx hb d_O_movedOverErase_22 (by decide) (fun h22 => ?_) (fun h22 => ?_)
    · skip
      have h22 := jw_ne (by omega) (by omega) h22
      refine lv_iload_n hx hb d_O_movedOverErase_29 rfl (lv_at hl 0 rfl) ?_
      refine jw_rS (As := [.int (nI (jt_po a))]) (rest := []) hx hb hml hown ht (m_O_siteOf l D a ha) (o_O_siteOf) k_O_29 rfl rfl ⟨Nat.le_of_ble_eq_true rfl, Nat.le_of_ble_eq_true rfl⟩ (hP.sub [] rfl) (hK.sub [] rfl) rfl hl.1 rfl (Nat.le_of_ble_eq_true rfl) d_O_movedOverErase_30 ⟨Nat.zero_le _, Nat.zero_le _⟩ ?_
      refine jw_rS (As := [.int (nI a.2.2.2)]) (rest := []) hx hb hml hown ht (m_O_nothingOf l D a.2.2.2 (by omega)) (o_O_nothingOf) k_O_35 rfl rfl ⟨Nat.le_of_ble_eq_true rfl, Nat.le_of_ble_eq_true rfl⟩ (hP.sub [] rfl) (hK.sub [] rfl) rfl hl.1 rfl (Nat.le_of_ble_eq_true rfl) d_O_movedOverErase_33 ⟨Nat.zero_le _, Nat.zero_le _⟩ ?_
      exact W.iret (v := nI (jt_po (0, 0, 0, a.2.2.2))) hx hb hr (fun t9 ht9 _ => ⟨congrArg (fun z => Outcome.returned (some (Value.int z))) (by unfold jt_mve; first | rw [if_pos (by omega)] | (rw [if_neg (by omega)]; first | done | rw [if_pos (by omega)] | rw [if_neg (by omega)])), ht9⟩) (fun q h => by cases h) d_O_movedOverErase_36
    · skip
      have h22 := jw_eq (by omega) (by omega) h22
      refine lv_iload_n hx hb d_O_movedOverErase_25 rfl (lv_at hl 0 rfl) ?_
      refine lv_goto (tgt := 36) hx hb d_O_movedOverErase_26 (by decide) ?_
      exact W.iret (v := nI (jt_po a)) hx hb hr (fun t9 ht9 _ => ⟨congrArg (fun z => Outcome.returned (some (Value.int z))) (by unfold jt_mve; first | rw [if_pos (by omega)] | (rw [if_neg (by omega)]; first | done | rw [if_pos (by omega)] | rw [if_neg (by omega)])), ht9⟩) (fun q h => by cases h) d_O_movedOverErase_36
  · skip
    have h8 := jw_nle (by omega) (by omega) h8
    refine lv_iload_n hx hb d_O_movedOverErase_11 rfl (lv_at hl 0 rfl) ?_
    refine lv_iconst (v := (-1)) hx hb d_O_movedOverErase_12 (by decide) ?_
    refine jw_rS (As := [.int (nI (jt_po a)), .int (-1)]) (rest := []) hx hb hml hown ht (m_O_shifted_m l D a ha ha.1 ha.2.1 ha.2.2.1 ha.2.2.2 (by omega)) (o_O_shifted) k_O_32 rfl rfl ⟨Nat.le_of_ble_eq_true rfl, Nat.le_of_ble_eq_true rfl⟩ (hP.sub [] rfl) (hK.sub [] rfl) rfl hl.1 rfl (Nat.le_of_ble_eq_true rfl) d_O_movedOverErase_13 ⟨Nat.zero_le _, Nat.zero_le _⟩ ?_
    exact W.iret (v := nI (jt_po (a.1, a.2.1 - 1, a.2.2.1, a.2.2.2))) hx hb hr (fun t9 ht9 _ => ⟨congrArg (fun z => Outcome.returned (some (Value.int z))) (by unfold jt_mve; first | rw [if_pos (by omega)] | (rw [if_neg (by omega)]; first | done | rw [if_pos (by omega)] | rw [if_neg (by omega)])), ht9⟩) (fun q h => by cases h) d_O_movedOverErase_16

theorem jt_mv_i {a b : jt_O} (h : ¬ (a.1 = 0 ∨ b.1 = 0 ∨ a.2.1 < b.2.1)) (h1 : b.1 = 1) : jt_mvi a b = jt_mv a b := by
  unfold jt_mv jt_mvi
  rw [if_neg h, if_pos h1]
theorem jt_mv_e {a b : jt_O} (h : ¬ (a.1 = 0 ∨ b.1 = 0 ∨ a.2.1 < b.2.1)) (h1 : ¬ b.1 = 1) : jt_mve a b = jt_mv a b := by
  unfold jt_mv jt_mve
  rw [if_neg h, if_neg h1]
theorem jt_mv_0 {a b : jt_O} (h : a.1 = 0 ∨ b.1 = 0 ∨ a.2.1 < b.2.1) : a = jt_mv a b := by
  unfold jt_mv
  rw [if_pos h]

set_option maxHeartbeats 4000000 in
set_option maxRecDepth 100000 in
/-- an op moved over another -/
theorem m_O_moved (l : Launch) (D : va_G) (a b : jt_O) (ha : jt_sm a) (hb0 : jt_sm b) : Met l y_O_moved w_O_moved ({ frames := 3, cells := 0, slots := 0, locals := 66 }) (jw_P [.int (nI (jt_po a)), .int (nI (jt_po b))] D jw_cl [] []) (k2_QcV (.int (nI (jt_po (jt_mv a b))))) 0 0 (fun _ => False) := by
  refine Met.ofW (cc := c_O_moved) (maxL := 2) (ret := (some .int)) (by decide) rfl ?_
  intro pg0 en0 s m args below meth cd0 s₁ B hml hv
  obtain ⟨rfl, hP, hK⟩ := hv
  have hx := B.exec
  have hb := B.bytes
  have hr := B.returns
  have hts := atoms_spec (ws := w_O_moved) B.pre
  have ht : ∀ w ∈ jw_tbl, w.before _ s = true := fun w h => hts w (List.mem_cons_of_mem _ h)
  have hown : s.vm.findClass jn_O = some m.cls := findClass_of_methodNamed B.named
  have hlocks := B.notSynchronized
  have hl := lv_entry ([.int (nI (jt_po a)), .int (nI (jt_po b))]) (n := 2) (Nat.le_of_ble_eq_true rfl)
  rw [lg_entry_eq]
  generalize (lg_sl ([.int (nI (jt_po a)), .int (nI (jt_po b))]) ++ List.replicate (2 - (lg_sl ([.int (nI (jt_po a)), .int (nI (jt_po b))])).length) Slot.unset).toArray = ls at hl ⊢
  have hl : lv_has ls 2 [(0, .int (nI (jt_po a))), (1, .int (nI (jt_po b)))] := hl
  obtain ⟨a1, a2, a3, a4⟩ := id ha
  obtain ⟨b1, b2, b3, b4⟩ := id hb0
  refine lv_iload_n hx hb d_O_moved_0 rfl (lv_at hl 0 rfl) ?_
  refine jw_rS (As := [.int (nI (jt_po a))]) (rest := []) hx hb hml hown ht (m_O_kindOf l D a ha) (o_O_kindOf) k_O_15 rfl rfl ⟨Nat.le_of_ble_eq_true rfl, Nat.le_of_ble_eq_true rfl⟩ (hP.sub [] rfl) (hK.sub [] rfl) rfl hl.1 rfl (Nat.le_of_ble_eq_true rfl) d_O_moved_1 ⟨Nat.zero_le _, Nat.zero_le _⟩ ?_
  refine lv_if_eq (tgt := 25) hx hb d_O_moved_4 (by decide) (fun h4 => ?_) (fun h4 => ?_)
  · skip
    have h4 := jw_eq0 (by omega) h4
    refine lv_iload_n hx hb d_O_moved_25 rfl (lv_at hl 0 rfl) ?_
    exact W.iret (v := nI (jt_po a)) hx hb hr (fun t9 ht9 _ => ⟨congrArg (fun z => Outcome.returned (some (Value.int z))) (by rw [← jt_mv_0 (a := a) (b := b) (by omega)]), ht9⟩) (fun q h => by cases h) d_O_moved_26
  · skip
    have h4 := jw_ne0 (by omega) h4
    refine lv_iload_n hx hb d_O_moved_7 rfl (lv_at hl 1 rfl) ?_
    refine jw_rS (As := [.int (nI (jt_po b))]) (rest := []) hx hb hml hown ht (m_O_kindOf l D b hb0) (o_O_kindOf) k_O_15 rfl rfl ⟨Nat.le_of_ble_eq_true rfl, Nat.le_of_ble_eq_true rfl⟩ (hP.sub [] rfl) (hK.sub [] rfl) rfl hl.1 rfl (Nat.le_of_ble_eq_true rfl) d_O_moved_8 ⟨Nat.zero_le _, Nat.zero_le _⟩ ?_
    refine lv_if_eq (tgt := 25) hx hb d_O_moved_11 (by decide) (fun h11 => ?_) (fun h11 => ?_)
    · skip
      have h11 := jw_eq0 (by omega) h11
      refine lv_iload_n hx hb d_O_moved_25 rfl (lv_at hl 0 rfl) ?_
      exact W.iret (v := nI (jt_po a)) hx hb hr (fun t9 ht9 _ => ⟨congrArg (fun z => Outcome.returned (some (Value.int z))) (by rw [← jt_mv_0 (a := a) (b := b) (by omega)]), ht9⟩) (fun q h => by cases h) d_O_moved_26
    · skip
      have h11 := jw_ne0 (by omega) h11
      refine lv_iload_n hx hb d_O_moved_14 rfl (lv_at hl 0 rfl) ?_
      refine jw_rS (As := [.int (nI (jt_po a))]) (rest := []) hx hb hml hown ht (m_O_positionOf l D a ha) (o_O_positionOf) k_O_19 rfl rfl ⟨Nat.le_of_ble_eq_true rfl, Nat.le_of_ble_eq_true rfl⟩ (hP.sub [] rfl) (hK.sub [] rfl) rfl hl.1 rfl (Nat.le_of_ble_eq_true rfl) d_O_moved_15 ⟨Nat.zero_le _, Nat.zero_le _⟩ ?_
      refine lv_iload_n hx hb d_O_moved_18 rfl (lv_at hl 1 rfl) ?_
      refine jw_rS (As := [.int (nI (jt_po b))]) (rest := [.int (nI a.2.1)]) hx hb hml hown ht (m_O_positionOf l D b hb0) (o_O_positionOf) k_O_19 rfl rfl ⟨Nat.le_of_ble_eq_true rfl, Nat.le_of_ble_eq_true rfl⟩ (hP.sub [] rfl) (hK.sub [] rfl) rfl hl.1 rfl (Nat.le_of_ble_eq_true rfl) d_O_moved_19 ⟨Nat.zero_le _, Nat.zero_le _⟩ ?_
      refine lv_icmp_ge (tgt := 27) hx hb d_O_moved_22 (by decide) (fun h22 => ?_) (fun h22 => ?_)
      · skip
        have h22 := jw_ge (by omega) (by omega) h22
        refine lv_iload_n hx hb d_O_moved_27 rfl (lv_at hl 1 rfl) ?_
        refine jw_rS (As := [.int (nI (jt_po b))]) (rest := []) hx hb hml hown ht (m_O_kindOf l D b hb0) (o_O_kindOf) k_O_15 rfl rfl ⟨Nat.le_of_ble_eq_true rfl, Nat.le_of_ble_eq_true rfl⟩ (hP.sub [] rfl) (hK.sub [] rfl) rfl hl.1 rfl (Nat.le_of_ble_eq_true rfl) d_O_moved_28 ⟨Nat.zero_le _, Nat.zero_le _⟩ ?_
        refine lv_iconst (v := nI 1) hx hb d_O_moved_31 (by decide) ?_
        refine lv_icmp_ne (tgt := 43) hx hb d_O_moved_32 (by decide) (fun h32 => ?_) (fun h32 => ?_)
        · skip
          have h32 := jw_ne (by omega) (by omega) h32
          refine lv_iload_n hx hb d_O_moved_43 rfl (lv_at hl 0 rfl) ?_
          refine lv_iload_n hx hb d_O_moved_44 rfl (lv_at hl 1 rfl) ?_
          refine jw_rS (As := [.int (nI (jt_po a)), .int (nI (jt_po b))]) (rest := []) hx hb hml hown ht (m_O_movedOverErase l D a b ha hb0) (o_O_movedOverErase) k_O_26 rfl rfl ⟨Nat.le_of_ble_eq_true rfl, Nat.le_of_ble_eq_true rfl⟩ (hP.sub [] rfl) (hK.sub [] rfl) rfl hl.1 rfl (Nat.le_of_ble_eq_true rfl) d_O_moved_45 ⟨Nat.zero_le _, Nat.zero_le _⟩ ?_
          exact W.iret (v := nI (jt_po (jt_mve a b))) hx hb hr (fun t9 ht9 _ => ⟨congrArg (fun z => Outcome.returned (some (Value.int z))) (by rw [jt_mv_e (by omega) (by omega)]), ht9⟩) (fun q h => by cases h) d_O_moved_48
        · skip
          have h32 := jw_eq (by omega) (by omega) h32
          refine lv_iload_n hx hb d_O_moved_35 rfl (lv_at hl 0 rfl) ?_
          refine lv_iload_n hx hb d_O_moved_36 rfl (lv_at hl 1 rfl) ?_
          refine jw_rS (As := [.int (nI (jt_po a)), .int (nI (jt_po b))]) (rest := []) hx hb hml hown ht (m_O_movedOverInsert l D a b ha hb0) (o_O_movedOverInsert) k_O_22 rfl rfl ⟨Nat.le_of_ble_eq_true rfl, Nat.le_of_ble_eq_true rfl⟩ (hP.sub [] rfl) (hK.sub [] rfl) rfl hl.1 rfl (Nat.le_of_ble_eq_true rfl) d_O_moved_37 ⟨Nat.zero_le _, Nat.zero_le _⟩ ?_
          refine lv_goto (tgt := 48) hx hb d_O_moved_40 (by decide) ?_
          exact W.iret (v := nI (jt_po (jt_mvi a b))) hx hb hr (fun t9 ht9 _ => ⟨congrArg (fun z => Outcome.returned (some (Value.int z))) (by rw [jt_mv_i (by omega) (by omega)]), ht9⟩) (fun q h => by cases h) d_O_moved_48
      · skip
        have h22 := jw_nge (by omega) (by omega) h22
        refine lv_iload_n hx hb d_O_moved_25 rfl (lv_at hl 0 rfl) ?_
        exact W.iret (v := nI (jt_po a)) hx hb hr (fun t9 ht9 _ => ⟨congrArg (fun z => Outcome.returned (some (Value.int z))) (by rw [← jt_mv_0 (a := a) (b := b) (by omega)]), ht9⟩) (fun q h => by cases h) d_O_moved_26
