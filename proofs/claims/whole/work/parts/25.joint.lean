theorem m_L_has_n (l : Launch) (D : va_G) (nn gg : Nat) (v1 x : Int32) (hn : ¬ (¬ x < 0 ∧ ¬ v1 ≤ x)) : Met l y_L_has w_L_has ({ frames := 0, cells := 0, slots := 0, locals := 0 }) (jw_P [.ref nn, .int x] D jw_cl [(nn, .inr (1, [.ref gg, .int v1]))] []) (k2_QcV (.int (nI 0))) 0 0 (fun _ => False) := by
  have q := m_L_has l D nn gg v1 x
  rw [decide_eq_false hn] at q
  exact q

theorem m_L_has_y (l : Launch) (D : va_G) (nn gg n k : Nat) (hk : k < n) (hn : n < 2 ^ 31) : Met l y_L_has w_L_has ({ frames := 0, cells := 0, slots := 0, locals := 0 }) (jw_P [.ref nn, .int (nI k)] D jw_cl [(nn, .inr (1, [.ref gg, .int (nI n)]))] []) (k2_QcV (.int (nI 1))) 0 0 (fun _ => False) := by
  have q := m_L_has l D nn gg (nI n) (nI k)
  rw [decide_eq_true (⟨nI_pos (by omega), nI_ge hk hn⟩)] at q
  exact q

theorem m_S_hasWritten_n (l : Launch) (D : va_G) (z ao an th : Nat) (v3 v4 v5 x : Int32) (hn : ¬ (¬ x < 0 ∧ ¬ v3 ≤ x)) : Met l y_S_hasWritten w_S_hasWritten ({ frames := 0, cells := 0, slots := 0, locals := 0 }) (jw_P [.ref z, .int x] D jw_cl [(z, .inr (3, [.ref th, .ref ao, .ref an, .int v3, .int v4, .int v5]))] []) (k2_QcV (.int (nI 0))) 0 0 (fun _ => False) := by
  have q := m_S_hasWritten l D z ao an th v3 v4 v5 x
  rw [decide_eq_false hn] at q
  exact q

theorem m_S_hasWritten_y (l : Launch) (D : va_G) (z ao an th : Nat) (v4 v5 : Int32) (n k : Nat) (hk : k < n) (hn : n < 2 ^ 31) : Met l y_S_hasWritten w_S_hasWritten ({ frames := 0, cells := 0, slots := 0, locals := 0 }) (jw_P [.ref z, .int (nI k)] D jw_cl [(z, .inr (3, [.ref th, .ref ao, .ref an, .int (nI n), .int v4, .int v5]))] []) (k2_QcV (.int (nI 1))) 0 0 (fun _ => False) := by
  have q := m_S_hasWritten l D z ao an th (nI n) v4 v5 (nI k)
  rw [decide_eq_true (⟨nI_pos (by omega), nI_ge hk hn⟩)] at q
  exact q

set_option maxHeartbeats 4000000 in
set_option maxRecDepth 100000 in
theorem m_J_isClient (l : Launch) (D : va_G) (v : Int32) : Met l y_J_isClient w_J_isClient ({ frames := 0, cells := 0, slots := 0, locals := 0 }) (jw_P [.int v] D jw_cl [] []) (k2_QcV (.int (jw_b (decide (¬ v < 0 ∧ ¬ nI 3 ≤ v))))) 0 0 (fun _ => False) := by
  refine Met.ofW (cc := c_J_isClient) (maxL := 1) (ret := (some .boolean)) (by decide) rfl ?_
  intro pg0 en0 s m args below meth cd0 s₁ B hml hv
  obtain ⟨rfl, hP, hK⟩ := hv
  have hx := B.exec
  have hb := B.bytes
  have hr := B.returns
  have hts := atoms_spec (ws := w_J_isClient) B.pre
  have ht : ∀ w ∈ jw_tbl, w.before _ s = true := fun w h => hts w (List.mem_cons_of_mem _ h)
  have hown : s.vm.findClass jn_J = some m.cls := findClass_of_methodNamed B.named
  have hlocks := B.notSynchronized
  have hl := lv_entry ([.int v]) (n := 1) (Nat.le_of_ble_eq_true rfl)
  rw [lg_entry_eq]
  generalize (lg_sl ([.int v]) ++ List.replicate (1 - (lg_sl ([.int v])).length) Slot.unset).toArray = ls at hl ⊢
  have hl : lv_has ls 1 [(0, .int v)] := hl
  refine lv_iload_n hx hb d_J_isClient_0 rfl (lv_at hl 0 rfl) ?_
  refine lv_if_lt (tgt := 13) hx hb d_J_isClient_1 (by decide) (fun h1 => ?_) (fun h1 => ?_)
  · skip
    refine lv_iconst (v := nI 0) hx hb d_J_isClient_13 (by decide) ?_
    exact W.zret (v := nI 0) hx hb hr (by decide) (fun t9 ht9 _ => ⟨congrArg (fun z => Outcome.returned (some (Value.int z))) (by simp [jw_b, *]), ht9⟩) (fun q h => by cases h) d_J_isClient_14
  · skip
    refine lv_iload_n hx hb d_J_isClient_4 rfl (lv_at hl 0 rfl) ?_
    refine lv_iconst (v := nI 3) hx hb d_J_isClient_5 (by decide) ?_
    refine lv_icmp_ge (tgt := 13) hx hb d_J_isClient_6 (by decide) (fun h6 => ?_) (fun h6 => ?_)
    · skip
      refine lv_iconst (v := nI 0) hx hb d_J_isClient_13 (by decide) ?_
      exact W.zret (v := nI 0) hx hb hr (by decide) (fun t9 ht9 _ => ⟨congrArg (fun z => Outcome.returned (some (Value.int z))) (by simp [jw_b, *]), ht9⟩) (fun q h => by cases h) d_J_isClient_14
    · skip
      refine lv_iconst (v := nI 1) hx hb d_J_isClient_9 (by decide) ?_
      refine lv_goto (tgt := 14) hx hb d_J_isClient_10 (by decide) ?_
      exact W.zret (v := nI 1) hx hb hr (by decide) (fun t9 ht9 _ => ⟨congrArg (fun z => Outcome.returned (some (Value.int z))) (by simp [jw_b, *]), ht9⟩) (fun q h => by cases h) d_J_isClient_14

theorem m_J_isClient_n (l : Launch) (D : va_G) (v : Int32) (hn : ¬ (¬ v < 0 ∧ ¬ nI 3 ≤ v)) : Met l y_J_isClient w_J_isClient ({ frames := 0, cells := 0, slots := 0, locals := 0 }) (jw_P [.int v] D jw_cl [] []) (k2_QcV (.int (nI 0))) 0 0 (fun _ => False) := by
  have q := m_J_isClient l D v
  rw [decide_eq_false hn] at q
  exact q

theorem m_J_isClient_y (l : Launch) (D : va_G) (k : Nat) (hk : k < 3) : Met l y_J_isClient w_J_isClient ({ frames := 0, cells := 0, slots := 0, locals := 0 }) (jw_P [.int (nI k)] D jw_cl [] []) (k2_QcV (.int (nI 1))) 0 0 (fun _ => False) := by
  have q := m_J_isClient l D (nI k)
  rw [decide_eq_true (⟨nI_pos (by omega), nI_ge hk (by decide)⟩)] at q
  exact q

set_option maxHeartbeats 4000000 in
set_option maxRecDepth 100000 in
theorem m_J_isSide (l : Launch) (D : va_G) (v : Int32) : Met l y_J_isSide w_J_isSide ({ frames := 1, cells := 0, slots := 0, locals := 20 }) (jw_P [.int v] D jw_cl [] []) (k2_QcV (.int (jw_b (decide ((¬ v < 0 ∧ ¬ nI 3 ≤ v) ∨ v = nI 3))))) 0 0 (fun _ => False) := by
  refine Met.ofW (cc := c_J_isSide) (maxL := 1) (ret := (some .boolean)) (by decide) rfl ?_
  intro pg0 en0 s m args below meth cd0 s₁ B hml hv
  obtain ⟨rfl, hP, hK⟩ := hv
  have hx := B.exec
  have hb := B.bytes
  have hr := B.returns
  have hts := atoms_spec (ws := w_J_isSide) B.pre
  have ht : ∀ w ∈ jw_tbl, w.before _ s = true := fun w h => hts w (List.mem_cons_of_mem _ h)
  have hown : s.vm.findClass jn_J = some m.cls := findClass_of_methodNamed B.named
  have hlocks := B.notSynchronized
  have hl := lv_entry ([.int v]) (n := 1) (Nat.le_of_ble_eq_true rfl)
  rw [lg_entry_eq]
  generalize (lg_sl ([.int v]) ++ List.replicate (1 - (lg_sl ([.int v])).length) Slot.unset).toArray = ls at hl ⊢
  have hl : lv_has ls 1 [(0, .int v)] := hl
  refine lv_iload_n hx hb d_J_isSide_0 rfl (lv_at hl 0 rfl) ?_
  refine jw_rS (As := [.int v]) (rest := []) hx hb hml hown ht (m_J_isClient l D v) (o_J_isClient) k_J_32 rfl rfl ⟨Nat.le_of_ble_eq_true rfl, Nat.le_of_ble_eq_true rfl⟩ (hP.sub [] rfl) (hK.sub [] rfl) rfl hl.1 rfl (Nat.le_of_ble_eq_true rfl) d_J_isSide_1 ⟨Nat.zero_le _, Nat.zero_le _⟩ ?_
  refine lv_if_ne (tgt := 12) hx hb d_J_isSide_4 (by decide) (fun h4 => ?_) (fun h4 => ?_)
  · skip
    have h4 := of_decide_eq_true (jw_b1 h4)
    refine lv_iconst (v := nI 1) hx hb d_J_isSide_12 (by decide) ?_
    refine lv_goto (tgt := 17) hx hb d_J_isSide_13 (by decide) ?_
    exact W.zret (v := nI 1) hx hb hr (by decide) (fun t9 ht9 _ => ⟨congrArg (fun z => Outcome.returned (some (Value.int z))) (by first | (rw [decide_eq_true (Or.inl h4)]; rfl) | (rw [decide_eq_true (Or.inr h9)]; rfl) | (rw [decide_eq_false (fun z9 => z9.elim h4 h9)]; rfl)), ht9⟩) (fun q h => by cases h) d_J_isSide_17
  · skip
    have h4 := of_decide_eq_false (jw_b0 h4)
    refine lv_iload_n hx hb d_J_isSide_7 rfl (lv_at hl 0 rfl) ?_
    refine lv_iconst (v := nI 3) hx hb d_J_isSide_8 (by decide) ?_
    refine lv_icmp_ne (tgt := 16) hx hb d_J_isSide_9 (by decide) (fun h9 => ?_) (fun h9 => ?_)
    · skip
      refine lv_iconst (v := nI 0) hx hb d_J_isSide_16 (by decide) ?_
      exact W.zret (v := nI 0) hx hb hr (by decide) (fun t9 ht9 _ => ⟨congrArg (fun z => Outcome.returned (some (Value.int z))) (by first | (rw [decide_eq_true (Or.inl h4)]; rfl) | (rw [decide_eq_true (Or.inr h9)]; rfl) | (rw [decide_eq_false (fun z9 => z9.elim h4 h9)]; rfl)), ht9⟩) (fun q h => by cases h) d_J_isSide_17
    · skip
      refine lv_iconst (v := nI 1) hx hb d_J_isSide_12 (by decide) ?_
      refine lv_goto (tgt := 17) hx hb d_J_isSide_13 (by decide) ?_
      exact W.zret (v := nI 1) hx hb hr (by decide) (fun t9 ht9 _ => ⟨congrArg (fun z => Outcome.returned (some (Value.int z))) (by first | (rw [decide_eq_true (Or.inl h4)]; rfl) | (rw [decide_eq_true (Or.inr h9)]; rfl) | (rw [decide_eq_false (fun z9 => z9.elim h4 h9)]; rfl)), ht9⟩) (fun q h => by cases h) d_J_isSide_17

theorem m_J_isSide_n (l : Launch) (D : va_G) (v : Int32) (hn : ¬ ((¬ v < 0 ∧ ¬ nI 3 ≤ v) ∨ v = nI 3)) : Met l y_J_isSide w_J_isSide ({ frames := 1, cells := 0, slots := 0, locals := 20 }) (jw_P [.int v] D jw_cl [] []) (k2_QcV (.int (nI 0))) 0 0 (fun _ => False) := by
  have q := m_J_isSide l D v
  rw [decide_eq_false hn] at q
  exact q

theorem m_J_isSide_y (l : Launch) (D : va_G) (k : Nat) (hk : k < 4) : Met l y_J_isSide w_J_isSide ({ frames := 1, cells := 0, slots := 0, locals := 20 }) (jw_P [.int (nI k)] D jw_cl [] []) (k2_QcV (.int (nI 1))) 0 0 (fun _ => False) := by
  have q := m_J_isSide l D (nI k)
  rw [decide_eq_true (by by_cases e3 : k = 3; exact Or.inr (by rw [e3]); exact Or.inl ⟨nI_pos (by omega), nI_ge (by omega) (by decide)⟩)] at q
  exact q

set_option maxHeartbeats 4000000 in
set_option maxRecDepth 100000 in
theorem m_J_isDown_s (l : Launch) (D : va_G) (x ca z nn ao an th : Nat) (S : jt_S) (hup : js_up S ≤ 1) : Met l y_J_isDown w_J_isDown ({ frames := 1, cells := 0, slots := 0, locals := 20 }) (jw_P [.ref x, .int (nI 3)] D jw_cl [(x, .inr (5, [.ref ca, .ref z, .ref nn])), (z, .inr (3, [.ref th, .ref ao, .ref an, .int (nI (js_N S)), .int (nI (js_up S)), .int (nI (js_tr S))]))] []) (k2_QcV (.int (jw_b (decide (js_up S = 0))))) 0 0 (fun _ => False) := by
  refine Met.ofW (cc := c_J_isDown) (maxL := 2) (ret := (some .boolean)) (by decide) rfl ?_
  intro pg0 en0 s m args below meth cd0 s₁ B hml hv
  obtain ⟨rfl, hP, hK⟩ := hv
  have hx := B.exec
  have hb := B.bytes
  have hr := B.returns
  have hts := atoms_spec (ws := w_J_isDown) B.pre
  have ht : ∀ w ∈ jw_tbl, w.before _ s = true := fun w h => hts w (List.mem_cons_of_mem _ h)
  have hown : s.vm.findClass jn_J = some m.cls := findClass_of_methodNamed B.named
  have hlocks := B.notSynchronized
  have hl := lv_entry ([.ref x, .int (nI 3)]) (n := 2) (Nat.le_of_ble_eq_true rfl)
  rw [lg_entry_eq]
  generalize (lg_sl ([.ref x, .int (nI 3)]) ++ List.replicate (2 - (lg_sl ([.ref x, .int (nI 3)])).length) Slot.unset).toArray = ls at hl ⊢
  have hl : lv_has ls 2 [(0, .ref x), (1, .int (nI 3))] := hl
  refine lv_iload_n hx hb d_J_isDown_0 rfl (lv_at hl 1 rfl) ?_
  refine lv_iconst (v := nI 3) hx hb d_J_isDown_1 (by decide) ?_
  refine lv_icmp_ne (tgt := 19) hx hb d_J_isDown_2 (by decide) (fun h2 => absurd (jw_ne (by omega) (by omega) h2) (by omega)) (fun h2 => ?_)
  have h2 := jw_eq (by omega) (by omega) h2
  refine lv_aload_n hx hb d_J_isDown_5 rfl (lv_at hl 0 rfl) ?_
  refine va_get (D := D) (ci := 5) (v := .ref z) (C := jn_J) (T := jf_J) (N := 3) hx hb ht ji_J hown hK hP 0 rfl rfl 1 (by decide) (ht _ k_J_21) (fun _ h9 => h9) rfl d_J_isDown_6 ?_
  refine jw_rV (As := []) (rest := []) hx hb hml hown ht (m_S_isUp l D z ao an th _ _ _ hup) (o_S_isUp) k_J_157 rfl rfl ⟨Nat.le_of_ble_eq_true rfl, Nat.le_of_ble_eq_true rfl⟩ (hP.sub [1] rfl) (hK.sub [] rfl) (va_recv (q0 := 1) (ci := 3) hK hP rfl rfl) rfl hl.1 rfl (Nat.le_of_ble_eq_true rfl) d_J_isDown_9 ⟨Nat.zero_le _, Nat.zero_le _⟩ ?_
  refine lv_if_ne (tgt := 19) hx hb d_J_isDown_12 (by decide) (fun h12 => ?_) (fun h12 => ?_)
  · skip
    have h12 := jw_ne0 (by omega) h12
    refine lv_iconst (v := nI 0) hx hb d_J_isDown_19 (by decide) ?_
    exact W.zret (v := nI 0) hx hb hr (by decide) (fun t9 ht9 _ => ⟨congrArg (fun z => Outcome.returned (some (Value.int z))) (by simp [jw_b]; omega), ht9⟩) (fun q h => by cases h) d_J_isDown_20
  · skip
    have h12 := jw_eq0 (by omega) h12
    refine lv_iconst (v := nI 1) hx hb d_J_isDown_15 (by decide) ?_
    refine lv_goto (tgt := 20) hx hb d_J_isDown_16 (by decide) ?_
    exact W.zret (v := nI 1) hx hb hr (by decide) (fun t9 ht9 _ => ⟨congrArg (fun z => Outcome.returned (some (Value.int z))) (by simp [jw_b]; omega), ht9⟩) (fun q h => by cases h) d_J_isDown_20

set_option maxHeartbeats 4000000 in
set_option maxRecDepth 100000 in
theorem m_J_isDown_c (l : Launch) (D : va_G) (x : Nat) (k : Nat) (hk : k < 3) : Met l y_J_isDown w_J_isDown ({ frames := 0, cells := 0, slots := 0, locals := 0 }) (jw_P [.ref x, .int (nI k)] D jw_cl [] []) (k2_QcV (.int (nI 0))) 0 0 (fun _ => False) := by
  refine Met.ofW (cc := c_J_isDown) (maxL := 2) (ret := (some .boolean)) (by decide) rfl ?_
  intro pg0 en0 s m args below meth cd0 s₁ B hml hv
  obtain ⟨rfl, hP, hK⟩ := hv
  have hx := B.exec
  have hb := B.bytes
  have hr := B.returns
  have hts := atoms_spec (ws := w_J_isDown) B.pre
  have ht : ∀ w ∈ jw_tbl, w.before _ s = true := fun w h => hts w (List.mem_cons_of_mem _ h)
  have hown : s.vm.findClass jn_J = some m.cls := findClass_of_methodNamed B.named
  have hlocks := B.notSynchronized
  have hl := lv_entry ([.ref x, .int (nI k)]) (n := 2) (Nat.le_of_ble_eq_true rfl)
  rw [lg_entry_eq]
  generalize (lg_sl ([.ref x, .int (nI k)]) ++ List.replicate (2 - (lg_sl ([.ref x, .int (nI k)])).length) Slot.unset).toArray = ls at hl ⊢
  have hl : lv_has ls 2 [(0, .ref x), (1, .int (nI k))] := hl
  refine lv_iload_n hx hb d_J_isDown_0 rfl (lv_at hl 1 rfl) ?_
  refine lv_iconst (v := nI 3) hx hb d_J_isDown_1 (by decide) ?_
  refine lv_icmp_ne (tgt := 19) hx hb d_J_isDown_2 (by decide) (fun h2 => ?_) (fun h2 => absurd (jw_eq (by omega) (by omega) h2) (by omega))
  have h2 := jw_ne (by omega) (by omega) h2
  refine lv_iconst (v := nI 0) hx hb d_J_isDown_19 (by decide) ?_
  exact W.zret (v := nI 0) hx hb hr (by decide) (fun t9 ht9 _ => ⟨rfl, ht9⟩) (fun q h => by cases h) d_J_isDown_20

set_option maxHeartbeats 4000000 in
set_option maxRecDepth 100000 in
theorem m_J_textOf_s (l : Launch) (D : va_G) (x ca z nn ao an th : Nat) (v3 v4 v5 : Int32) : Met l y_J_textOf w_J_textOf ({ frames := 0, cells := 0, slots := 0, locals := 0 }) (jw_P [.ref x, .int (nI 3)] D jw_cl [(x, .inr (5, [.ref ca, .ref z, .ref nn])), (z, .inr (3, [.ref th, .ref ao, .ref an, .int v3, .int v4, .int v5]))] []) (k2_QcV (.ref th)) 0 0 (fun _ => False) := by
  refine Met.ofW (cc := c_J_textOf) (maxL := 2) (ret := (some (.object "JointText$Text"))) (by decide) rfl ?_
  intro pg0 en0 s m args below meth cd0 s₁ B hml hv
  obtain ⟨rfl, hP, hK⟩ := hv
  have hx := B.exec
  have hb := B.bytes
  have hr := B.returns
  have hts := atoms_spec (ws := w_J_textOf) B.pre
  have ht : ∀ w ∈ jw_tbl, w.before _ s = true := fun w h => hts w (List.mem_cons_of_mem _ h)
  have hown : s.vm.findClass jn_J = some m.cls := findClass_of_methodNamed B.named
  have hlocks := B.notSynchronized
  have hl := lv_entry ([.ref x, .int (nI 3)]) (n := 2) (Nat.le_of_ble_eq_true rfl)
  rw [lg_entry_eq]
  generalize (lg_sl ([.ref x, .int (nI 3)]) ++ List.replicate (2 - (lg_sl ([.ref x, .int (nI 3)])).length) Slot.unset).toArray = ls at hl ⊢
  have hl : lv_has ls 2 [(0, .ref x), (1, .int (nI 3))] := hl
  refine lv_iload_n hx hb d_J_textOf_0 rfl (lv_at hl 1 rfl) ?_
  refine lv_iconst (v := nI 3) hx hb d_J_textOf_1 (by decide) ?_
  refine lv_icmp_ne (tgt := 15) hx hb d_J_textOf_2 (by decide) (fun h2 => absurd (jw_ne (by omega) (by omega) h2) (by omega)) (fun h2 => ?_)
  have h2 := jw_eq (by omega) (by omega) h2
  refine lv_aload_n hx hb d_J_textOf_5 rfl (lv_at hl 0 rfl) ?_
  refine va_get (D := D) (ci := 5) (v := .ref z) (C := jn_J) (T := jf_J) (N := 3) hx hb ht ji_J hown hK hP 0 rfl rfl 1 (by decide) (ht _ k_J_21) (fun _ h9 => h9) rfl d_J_textOf_6 ?_
  refine va_get (D := D) (ci := 3) (v := .ref th) (C := jn_S) (T := jf_S) (N := 6) hx hb ht ji_S hown hK hP 1 rfl rfl 0 (by decide) (ht _ k_J_195) (fun _ h9 => h9) rfl d_J_textOf_9 ?_
  refine lv_goto (tgt := 24) hx hb d_J_textOf_12 (by decide) ?_
  exact W.aret (v := .ref th) hx hb hr (Or.inl ⟨_, rfl⟩) (Or.inr ⟨_, rfl⟩) (fun t9 ht9 _ => ⟨rfl, ht9⟩) (fun q h => by cases h) d_J_textOf_24

set_option maxHeartbeats 4000000 in
set_option maxRecDepth 100000 in
theorem m_J_textOf_c (l : Launch) (D : va_G) (x ca z nn q e h g : Nat) (cC : ClassId) (gc : Nat → Option Nat) (v0 v4 v5 v6 v7 : Int32) (k : Nat) (hk : k < 3) (hg : gc k = some q) : Met l y_J_textOf w_J_textOf ({ frames := 0, cells := 0, slots := 0, locals := 0 }) (jw_P [.ref x, .int (nI k)] D jw_cl [(x, .inr (5, [.ref ca, .ref z, .ref nn])), (ca, .inl (cC, 3, .inr (.inr (.inr (.inr gc))))), (q, .inr (0, [.int v0, .ref h, .ref g, .ref e, .int v4, .int v5, .int v6, .int v7]))] [(cC, .object "JointText$Client")]) (k2_QcV (.ref h)) 0 0 (fun _ => False) := by
  refine Met.ofW (cc := c_J_textOf) (maxL := 2) (ret := (some (.object "JointText$Text"))) (by decide) rfl ?_
  intro pg0 en0 s m args below meth cd0 s₁ B hml hv
  obtain ⟨rfl, hP, hK⟩ := hv
  have hx := B.exec
  have hb := B.bytes
  have hr := B.returns
  have hts := atoms_spec (ws := w_J_textOf) B.pre
  have ht : ∀ w ∈ jw_tbl, w.before _ s = true := fun w h => hts w (List.mem_cons_of_mem _ h)
  have hown : s.vm.findClass jn_J = some m.cls := findClass_of_methodNamed B.named
  have hlocks := B.notSynchronized
  have hl := lv_entry ([.ref x, .int (nI k)]) (n := 2) (Nat.le_of_ble_eq_true rfl)
  rw [lg_entry_eq]
  generalize (lg_sl ([.ref x, .int (nI k)]) ++ List.replicate (2 - (lg_sl ([.ref x, .int (nI k)])).length) Slot.unset).toArray = ls at hl ⊢
  have hl : lv_has ls 2 [(0, .ref x), (1, .int (nI k))] := hl
  refine lv_iload_n hx hb d_J_textOf_0 rfl (lv_at hl 1 rfl) ?_
  refine lv_iconst (v := nI 3) hx hb d_J_textOf_1 (by decide) ?_
  refine lv_icmp_ne (tgt := 15) hx hb d_J_textOf_2 (by decide) (fun h2 => ?_) (fun h2 => absurd (jw_eq (by omega) (by omega) h2) (by omega))
  have h2 := jw_ne (by omega) (by omega) h2
  refine lv_aload_n hx hb d_J_textOf_15 rfl (lv_at hl 0 rfl) ?_
  refine va_get (D := D) (ci := 5) (v := .ref ca) (C := jn_J) (T := jf_J) (N := 3) hx hb ht ji_J hown hK hP 0 rfl rfl 0 (by decide) (ht _ k_J_14) (fun _ h9 => h9) rfl d_J_textOf_16 ?_
  refine lv_iload_n hx hb d_J_textOf_19 rfl (lv_at hl 1 rfl) ?_
  refine jw_ald (v := .ref q) hx hb hK hP 1 0 rfl rfl rfl (vp_in_nI (by omega) (by decide)) (by rw [show (nI k).toNatClampNeg = k from nI_clamp (by omega)]; exact (by rw [hg]; rfl)) d_J_textOf_20 ?_
  refine va_get (D := D) (ci := 0) (v := .ref h) (C := jn_C) (T := jf_C) (N := 8) hx hb ht ji_C hown hK hP 2 rfl rfl 1 (by decide) (ht _ k_J_39) (fun _ h9 => h9) rfl d_J_textOf_21 ?_
  exact W.aret (v := .ref h) hx hb hr (Or.inl ⟨_, rfl⟩) (Or.inr ⟨_, rfl⟩) (fun t9 ht9 _ => ⟨rfl, ht9⟩) (fun q h => by cases h) d_J_textOf_24

set_option maxHeartbeats 4000000 in
set_option maxRecDepth 100000 in
theorem m_J_length_n (l : Launch) (D : va_G) (x : Nat) (v : Int32) (hn : ¬ ((¬ v < 0 ∧ ¬ nI 3 ≤ v) ∨ v = nI 3)) : Met l y_J_length w_J_length ({ frames := 2, cells := 0, slots := 0, locals := 40 }) (jw_P [.ref x, .int v] D jw_cl [] []) (k2_QcV (.int (-1))) 0 0 (fun _ => False) := by
  refine Met.ofW (cc := c_J_length) (maxL := 2) (ret := (some .int)) (by decide) rfl ?_
  intro pg0 en0 s m args below meth cd0 s₁ B hml hv
  obtain ⟨rfl, hP, hK⟩ := hv
  have hx := B.exec
  have hb := B.bytes
  have hr := B.returns
  have hts := atoms_spec (ws := w_J_length) B.pre
  have ht : ∀ w ∈ jw_tbl, w.before _ s = true := fun w h => hts w (List.mem_cons_of_mem _ h)
  have hown : s.vm.findClass jn_J = some m.cls := findClass_of_methodNamed B.named
  have hlocks := B.notSynchronized
  have hl := lv_entry ([.ref x, .int v]) (n := 2) (Nat.le_of_ble_eq_true rfl)
  rw [lg_entry_eq]
  generalize (lg_sl ([.ref x, .int v]) ++ List.replicate (2 - (lg_sl ([.ref x, .int v])).length) Slot.unset).toArray = ls at hl ⊢
  have hl : lv_has ls 2 [(0, .ref x), (1, .int v)] := hl
  refine lv_iload_n hx hb d_J_length_0 rfl (lv_at hl 1 rfl) ?_
  refine jw_rS (As := [.int v]) (rest := []) hx hb hml hown ht (m_J_isSide_n l D v hn) (o_J_isSide) k_J_97 rfl rfl ⟨Nat.le_of_ble_eq_true rfl, Nat.le_of_ble_eq_true rfl⟩ (hP.sub [] rfl) (hK.sub [] rfl) rfl hl.1 rfl (Nat.le_of_ble_eq_true rfl) d_J_length_1 ⟨Nat.zero_le _, Nat.zero_le _⟩ ?_
  refine lv_if_eq (tgt := 15) hx hb d_J_length_4 (by decide) (fun h4 => ?_) (fun h4 => absurd (jw_ne0 (by omega) h4) (by omega))
  have h4 := jw_eq0 (by omega) h4
  refine lv_iconst (v := (-1)) hx hb d_J_length_15 (by decide) ?_
  exact W.iret (v := (-1)) hx hb hr (fun t9 ht9 _ => ⟨rfl, ht9⟩) (fun q h => by cases h) d_J_length_16

set_option maxHeartbeats 4000000 in
set_option maxRecDepth 100000 in
theorem m_J_length_s (l : Launch) (D : va_G) (x ca z nn ao an th : Nat) (S : jt_S) (hup : js_up S ≤ 1) (ta : Nat) (tv : Int32) : Met l y_J_length w_J_length ({ frames := 2, cells := 0, slots := 0, locals := 41 }) (jw_P [.ref x, .int (nI 3)] D jw_cl [(x, .inr (5, [.ref ca, .ref z, .ref nn])), (z, .inr (3, [.ref th, .ref ao, .ref an, .int (nI (js_N S)), .int (nI (js_up S)), .int (nI (js_tr S))])), (th, .inr (4, [.ref ta, .int tv]))] []) (k2_QcV (.int (if js_up S = 0 then (-1) else tv))) 0 0 (fun _ => False) := by
  refine Met.ofW (cc := c_J_length) (maxL := 2) (ret := (some .int)) (by decide) rfl ?_
  intro pg0 en0 s m args below meth cd0 s₁ B hml hv
  obtain ⟨rfl, hP, hK⟩ := hv
  have hx := B.exec
  have hb := B.bytes
  have hr := B.returns
  have hts := atoms_spec (ws := w_J_length) B.pre
  have ht : ∀ w ∈ jw_tbl, w.before _ s = true := fun w h => hts w (List.mem_cons_of_mem _ h)
  have hown : s.vm.findClass jn_J = some m.cls := findClass_of_methodNamed B.named
  have hlocks := B.notSynchronized
  have hl := lv_entry ([.ref x, .int (nI 3)]) (n := 2) (Nat.le_of_ble_eq_true rfl)
  rw [lg_entry_eq]
  generalize (lg_sl ([.ref x, .int (nI 3)]) ++ List.replicate (2 - (lg_sl ([.ref x, .int (nI 3)])).length) Slot.unset).toArray = ls at hl ⊢
  have hl : lv_has ls 2 [(0, .ref x), (1, .int (nI 3))] := hl
  refine lv_iload_n hx hb d_J_length_0 rfl (lv_at hl 1 rfl) ?_
  refine jw_rS (As := [.int (nI 3)]) (rest := []) hx hb hml hown ht (m_J_isSide_y l D 3 (by omega)) (o_J_isSide) k_J_97 rfl rfl ⟨Nat.le_of_ble_eq_true rfl, Nat.le_of_ble_eq_true rfl⟩ (hP.sub [] rfl) (hK.sub [] rfl) rfl hl.1 rfl (Nat.le_of_ble_eq_true rfl) d_J_length_1 ⟨Nat.zero_le _, Nat.zero_le _⟩ ?_
  refine lv_if_eq (tgt := 15) hx hb d_J_length_4 (by decide) (fun h4 => absurd (jw_eq0 (by omega) h4) (by omega)) (fun h4 => ?_)
  have h4 := jw_ne0 (by omega) h4
  refine lv_aload_n hx hb d_J_length_7 rfl (lv_at hl 0 rfl) ?_
  refine lv_iload_n hx hb d_J_length_8 rfl (lv_at hl 1 rfl) ?_
  refine jw_rV (As := [.int (nI 3)]) (rest := []) hx hb hml hown ht (m_J_isDown_s l D x ca z nn ao an th S hup) (o_J_isDown) k_J_100 rfl rfl ⟨Nat.le_of_ble_eq_true rfl, Nat.le_of_ble_eq_true rfl⟩ (hP.sub [0, 1] rfl) (hK.sub [] rfl) (va_recv (q0 := 0) (ci := 5) hK hP rfl rfl) rfl hl.1 rfl (Nat.le_of_ble_eq_true rfl) d_J_length_9 ⟨Nat.zero_le _, Nat.zero_le _⟩ ?_
  refine lv_if_eq (tgt := 17) hx hb d_J_length_12 (by decide) (fun h12 => ?_) (fun h12 => ?_)
  · skip
    have h12 := of_decide_eq_false (jw_b0 h12)
    refine lv_aload_n hx hb d_J_length_17 rfl (lv_at hl 0 rfl) ?_
    refine lv_iload_n hx hb d_J_length_18 rfl (lv_at hl 1 rfl) ?_
    refine jw_rV (As := [.int (nI 3)]) (rest := []) hx hb hml hown ht (m_J_textOf_s l D x ca z nn ao an th _ _ _) (o_J_textOf) k_J_103 rfl rfl ⟨Nat.le_of_ble_eq_true rfl, Nat.le_of_ble_eq_true rfl⟩ (hP.sub [0, 1] rfl) (hK.sub [] rfl) (va_recv (q0 := 0) (ci := 5) hK hP rfl rfl) rfl hl.1 rfl (Nat.le_of_ble_eq_true rfl) d_J_length_19 ⟨Nat.zero_le _, Nat.zero_le _⟩ ?_
    refine jw_rV (As := []) (rest := []) hx hb hml hown ht (m_T_size l D th _ _) (o_T_size) k_J_43 rfl rfl ⟨Nat.le_of_ble_eq_true rfl, Nat.le_of_ble_eq_true rfl⟩ (hP.sub [2] rfl) (hK.sub [] rfl) (va_recv (q0 := 2) (ci := 4) hK hP rfl rfl) rfl hl.1 rfl (Nat.le_of_ble_eq_true rfl) d_J_length_22 ⟨Nat.zero_le _, Nat.zero_le _⟩ ?_
    exact W.iret (v := tv) hx hb hr (fun t9 ht9 _ => ⟨congrArg (fun z => Outcome.returned (some (Value.int z))) (by first | rw [if_pos h12] | rw [if_neg h12]), ht9⟩) (fun q h => by cases h) d_J_length_25
  · skip
    have h12 := of_decide_eq_true (jw_b1 h12)
    refine lv_iconst (v := (-1)) hx hb d_J_length_15 (by decide) ?_
    exact W.iret (v := (-1)) hx hb hr (fun t9 ht9 _ => ⟨congrArg (fun z => Outcome.returned (some (Value.int z))) (by first | rw [if_pos h12] | rw [if_neg h12]), ht9⟩) (fun q h => by cases h) d_J_length_16

set_option maxHeartbeats 4000000 in
set_option maxRecDepth 100000 in
theorem m_J_length_c (l : Launch) (D : va_G) (x ca z nn q e h g a : Nat) (cC : ClassId) (gc : Nat → Option Nat) (v0 v4 v5 v6 v7 tv : Int32) (k : Nat) (hk : k < 3) (hg : gc k = some q) : Met l y_J_length w_J_length ({ frames := 2, cells := 0, slots := 0, locals := 41 }) (jw_P [.ref x, .int (nI k)] D jw_cl [(x, .inr (5, [.ref ca, .ref z, .ref nn])), (ca, .inl (cC, 3, .inr (.inr (.inr (.inr gc))))), (q, .inr (0, [.int v0, .ref h, .ref g, .ref e, .int v4, .int v5, .int v6, .int v7])), (h, .inr (4, [.ref a, .int tv]))] [(cC, .object "JointText$Client")]) (k2_QcV (.int tv)) 0 0 (fun _ => False) := by
  refine Met.ofW (cc := c_J_length) (maxL := 2) (ret := (some .int)) (by decide) rfl ?_
  intro pg0 en0 s m args below meth cd0 s₁ B hml hv
  obtain ⟨rfl, hP, hK⟩ := hv
  have hx := B.exec
  have hb := B.bytes
  have hr := B.returns
  have hts := atoms_spec (ws := w_J_length) B.pre
  have ht : ∀ w ∈ jw_tbl, w.before _ s = true := fun w h => hts w (List.mem_cons_of_mem _ h)
  have hown : s.vm.findClass jn_J = some m.cls := findClass_of_methodNamed B.named
  have hlocks := B.notSynchronized
  have hl := lv_entry ([.ref x, .int (nI k)]) (n := 2) (Nat.le_of_ble_eq_true rfl)
  rw [lg_entry_eq]
  generalize (lg_sl ([.ref x, .int (nI k)]) ++ List.replicate (2 - (lg_sl ([.ref x, .int (nI k)])).length) Slot.unset).toArray = ls at hl ⊢
  have hl : lv_has ls 2 [(0, .ref x), (1, .int (nI k))] := hl
  refine lv_iload_n hx hb d_J_length_0 rfl (lv_at hl 1 rfl) ?_
  refine jw_rS (As := [.int (nI k)]) (rest := []) hx hb hml hown ht (m_J_isSide_y l D k (by omega)) (o_J_isSide) k_J_97 rfl rfl ⟨Nat.le_of_ble_eq_true rfl, Nat.le_of_ble_eq_true rfl⟩ (hP.sub [] rfl) (hK.sub [] rfl) rfl hl.1 rfl (Nat.le_of_ble_eq_true rfl) d_J_length_1 ⟨Nat.zero_le _, Nat.zero_le _⟩ ?_
  refine lv_if_eq (tgt := 15) hx hb d_J_length_4 (by decide) (fun h4 => absurd (jw_eq0 (by omega) h4) (by omega)) (fun h4 => ?_)
  have h4 := jw_ne0 (by omega) h4
  refine lv_aload_n hx hb d_J_length_7 rfl (lv_at hl 0 rfl) ?_
  refine lv_iload_n hx hb d_J_length_8 rfl (lv_at hl 1 rfl) ?_
  refine jw_rV (As := [.int (nI k)]) (rest := []) hx hb hml hown ht (m_J_isDown_c l D x k (by omega)) (o_J_isDown) k_J_100 rfl rfl ⟨Nat.le_of_ble_eq_true rfl, Nat.le_of_ble_eq_true rfl⟩ (hP.sub [] rfl) (hK.sub [] rfl) (va_recv (q0 := 0) (ci := 5) hK hP rfl rfl) rfl hl.1 rfl (Nat.le_of_ble_eq_true rfl) d_J_length_9 ⟨Nat.zero_le _, Nat.zero_le _⟩ ?_
  refine lv_if_eq (tgt := 17) hx hb d_J_length_12 (by decide) (fun h12 => ?_) (fun h12 => absurd (jw_ne0 (by omega) h12) (by omega))
  have h12 := jw_eq0 (by omega) h12
  refine lv_aload_n hx hb d_J_length_17 rfl (lv_at hl 0 rfl) ?_
  refine lv_iload_n hx hb d_J_length_18 rfl (lv_at hl 1 rfl) ?_
  refine jw_rV (As := [.int (nI k)]) (rest := []) hx hb hml hown ht (m_J_textOf_c l D x ca z nn q e h g cC gc _ _ _ _ _ k hk hg) (o_J_textOf) k_J_103 rfl rfl ⟨Nat.le_of_ble_eq_true rfl, Nat.le_of_ble_eq_true rfl⟩ (hP.sub [0, 1, 2] rfl) (hK.sub [0] rfl) (va_recv (q0 := 0) (ci := 5) hK hP rfl rfl) rfl hl.1 rfl (Nat.le_of_ble_eq_true rfl) d_J_length_19 ⟨Nat.zero_le _, Nat.zero_le _⟩ ?_
  refine jw_rV (As := []) (rest := []) hx hb hml hown ht (m_T_size l D h _ _) (o_T_size) k_J_43 rfl rfl ⟨Nat.le_of_ble_eq_true rfl, Nat.le_of_ble_eq_true rfl⟩ (hP.sub [3] rfl) (hK.sub [] rfl) (va_recv (q0 := 3) (ci := 4) hK hP rfl rfl) rfl hl.1 rfl (Nat.le_of_ble_eq_true rfl) d_J_length_22 ⟨Nat.zero_le _, Nat.zero_le _⟩ ?_
  exact W.iret (v := tv) hx hb hr (fun t9 ht9 _ => ⟨rfl, ht9⟩) (fun q h => by cases h) d_J_length_25

set_option maxHeartbeats 4000000 in
set_option maxRecDepth 100000 in
theorem m_J_revision_n (l : Launch) (D : va_G) (x : Nat) (v : Int32) (hn : ¬ ((¬ v < 0 ∧ ¬ nI 3 ≤ v) ∨ v = nI 3)) : Met l y_J_revision w_J_revision ({ frames := 2, cells := 0, slots := 0, locals := 40 }) (jw_P [.ref x, .int v] D jw_cl [] []) (k2_QcV (.int (-1))) 0 0 (fun _ => False) := by
  refine Met.ofW (cc := c_J_revision) (maxL := 2) (ret := (some .int)) (by decide) rfl ?_
  intro pg0 en0 s m args below meth cd0 s₁ B hml hv
  obtain ⟨rfl, hP, hK⟩ := hv
  have hx := B.exec
  have hb := B.bytes
  have hr := B.returns
  have hts := atoms_spec (ws := w_J_revision) B.pre
  have ht : ∀ w ∈ jw_tbl, w.before _ s = true := fun w h => hts w (List.mem_cons_of_mem _ h)
  have hown : s.vm.findClass jn_J = some m.cls := findClass_of_methodNamed B.named
  have hlocks := B.notSynchronized
  have hl := lv_entry ([.ref x, .int v]) (n := 2) (Nat.le_of_ble_eq_true rfl)
  rw [lg_entry_eq]
  generalize (lg_sl ([.ref x, .int v]) ++ List.replicate (2 - (lg_sl ([.ref x, .int v])).length) Slot.unset).toArray = ls at hl ⊢
  have hl : lv_has ls 2 [(0, .ref x), (1, .int v)] := hl
  refine lv_iload_n hx hb d_J_revision_0 rfl (lv_at hl 1 rfl) ?_
  refine jw_rS (As := [.int v]) (rest := []) hx hb hml hown ht (m_J_isSide_n l D v hn) (o_J_isSide) k_J_97 rfl rfl ⟨Nat.le_of_ble_eq_true rfl, Nat.le_of_ble_eq_true rfl⟩ (hP.sub [] rfl) (hK.sub [] rfl) rfl hl.1 rfl (Nat.le_of_ble_eq_true rfl) d_J_revision_1 ⟨Nat.zero_le _, Nat.zero_le _⟩ ?_
  refine lv_if_ne (tgt := 9) hx hb d_J_revision_4 (by decide) (fun h4 => absurd (jw_ne0 (by omega) h4) (by omega)) (fun h4 => ?_)
  have h4 := jw_eq0 (by omega) h4
  refine lv_iconst (v := (-1)) hx hb d_J_revision_7 (by decide) ?_
  exact W.iret (v := (-1)) hx hb hr (fun t9 ht9 _ => ⟨rfl, ht9⟩) (fun q h => by cases h) d_J_revision_8

set_option maxHeartbeats 4000000 in
set_option maxRecDepth 100000 in
theorem m_J_revision_s (l : Launch) (D : va_G) (x ca z nn ao an th : Nat) (v3 v4 v5 : Int32) : Met l y_J_revision w_J_revision ({ frames := 2, cells := 0, slots := 0, locals := 40 }) (jw_P [.ref x, .int (nI 3)] D jw_cl [(x, .inr (5, [.ref ca, .ref z, .ref nn])), (z, .inr (3, [.ref th, .ref ao, .ref an, .int v3, .int v4, .int v5]))] []) (k2_QcV (.int v3)) 0 0 (fun _ => False) := by
  refine Met.ofW (cc := c_J_revision) (maxL := 2) (ret := (some .int)) (by decide) rfl ?_
  intro pg0 en0 s m args below meth cd0 s₁ B hml hv
  obtain ⟨rfl, hP, hK⟩ := hv
  have hx := B.exec
  have hb := B.bytes
  have hr := B.returns
  have hts := atoms_spec (ws := w_J_revision) B.pre
  have ht : ∀ w ∈ jw_tbl, w.before _ s = true := fun w h => hts w (List.mem_cons_of_mem _ h)
  have hown : s.vm.findClass jn_J = some m.cls := findClass_of_methodNamed B.named
  have hlocks := B.notSynchronized
  have hl := lv_entry ([.ref x, .int (nI 3)]) (n := 2) (Nat.le_of_ble_eq_true rfl)
  rw [lg_entry_eq]
  generalize (lg_sl ([.ref x, .int (nI 3)]) ++ List.replicate (2 - (lg_sl ([.ref x, .int (nI 3)])).length) Slot.unset).toArray = ls at hl ⊢
  have hl : lv_has ls 2 [(0, .ref x), (1, .int (nI 3))] := hl
  refine lv_iload_n hx hb d_J_revision_0 rfl (lv_at hl 1 rfl) ?_
  refine jw_rS (As := [.int (nI 3)]) (rest := []) hx hb hml hown ht (m_J_isSide_y l D 3 (by omega)) (o_J_isSide) k_J_97 rfl rfl ⟨Nat.le_of_ble_eq_true rfl, Nat.le_of_ble_eq_true rfl⟩ (hP.sub [] rfl) (hK.sub [] rfl) rfl hl.1 rfl (Nat.le_of_ble_eq_true rfl) d_J_revision_1 ⟨Nat.zero_le _, Nat.zero_le _⟩ ?_
  refine lv_if_ne (tgt := 9) hx hb d_J_revision_4 (by decide) (fun h4 => ?_) (fun h4 => absurd (jw_eq0 (by omega) h4) (by omega))
  have h4 := jw_ne0 (by omega) h4
  refine lv_iload_n hx hb d_J_revision_9 rfl (lv_at hl 1 rfl) ?_
  refine lv_iconst (v := nI 3) hx hb d_J_revision_10 (by decide) ?_
  refine lv_icmp_ne (tgt := 24) hx hb d_J_revision_11 (by decide) (fun h11 => absurd (jw_ne (by omega) (by omega) h11) (by omega)) (fun h11 => ?_)
  have h11 := jw_eq (by omega) (by omega) h11
  refine lv_aload_n hx hb d_J_revision_14 rfl (lv_at hl 0 rfl) ?_
  refine va_get (D := D) (ci := 5) (v := .ref z) (C := jn_J) (T := jf_J) (N := 3) hx hb ht ji_J hown hK hP 0 rfl rfl 1 (by decide) (ht _ k_J_21) (fun _ h9 => h9) rfl d_J_revision_15 ?_
  refine jw_rV (As := []) (rest := []) hx hb hml hown ht (m_S_written l D z ao an th _ _ _) (o_S_written) k_J_110 rfl rfl ⟨Nat.le_of_ble_eq_true rfl, Nat.le_of_ble_eq_true rfl⟩ (hP.sub [1] rfl) (hK.sub [] rfl) (va_recv (q0 := 1) (ci := 3) hK hP rfl rfl) rfl hl.1 rfl (Nat.le_of_ble_eq_true rfl) d_J_revision_18 ⟨Nat.zero_le _, Nat.zero_le _⟩ ?_
  refine lv_goto (tgt := 33) hx hb d_J_revision_21 (by decide) ?_
  exact W.iret (v := v3) hx hb hr (fun t9 ht9 _ => ⟨rfl, ht9⟩) (fun q h => by cases h) d_J_revision_33

set_option maxHeartbeats 4000000 in
set_option maxRecDepth 100000 in
theorem m_J_revision_c (l : Launch) (D : va_G) (x ca z nn q e h g : Nat) (cC : ClassId) (gc : Nat → Option Nat) (v0 v4 v5 v6 v7 : Int32) (k : Nat) (hk : k < 3) (hg : gc k = some q) : Met l y_J_revision w_J_revision ({ frames := 2, cells := 0, slots := 0, locals := 40 }) (jw_P [.ref x, .int (nI k)] D jw_cl [(x, .inr (5, [.ref ca, .ref z, .ref nn])), (ca, .inl (cC, 3, .inr (.inr (.inr (.inr gc))))), (q, .inr (0, [.int v0, .ref h, .ref g, .ref e, .int v4, .int v5, .int v6, .int v7]))] [(cC, .object "JointText$Client")]) (k2_QcV (.int v6)) 0 0 (fun _ => False) := by
  refine Met.ofW (cc := c_J_revision) (maxL := 2) (ret := (some .int)) (by decide) rfl ?_
  intro pg0 en0 s m args below meth cd0 s₁ B hml hv
  obtain ⟨rfl, hP, hK⟩ := hv
  have hx := B.exec
  have hb := B.bytes
  have hr := B.returns
  have hts := atoms_spec (ws := w_J_revision) B.pre
  have ht : ∀ w ∈ jw_tbl, w.before _ s = true := fun w h => hts w (List.mem_cons_of_mem _ h)
  have hown : s.vm.findClass jn_J = some m.cls := findClass_of_methodNamed B.named
  have hlocks := B.notSynchronized
  have hl := lv_entry ([.ref x, .int (nI k)]) (n := 2) (Nat.le_of_ble_eq_true rfl)
  rw [lg_entry_eq]
  generalize (lg_sl ([.ref x, .int (nI k)]) ++ List.replicate (2 - (lg_sl ([.ref x, .int (nI k)])).length) Slot.unset).toArray = ls at hl ⊢
  have hl : lv_has ls 2 [(0, .ref x), (1, .int (nI k))] := hl
  refine lv_iload_n hx hb d_J_revision_0 rfl (lv_at hl 1 rfl) ?_
  refine jw_rS (As := [.int (nI k)]) (rest := []) hx hb hml hown ht (m_J_isSide_y l D k (by omega)) (o_J_isSide) k_J_97 rfl rfl ⟨Nat.le_of_ble_eq_true rfl, Nat.le_of_ble_eq_true rfl⟩ (hP.sub [] rfl) (hK.sub [] rfl) rfl hl.1 rfl (Nat.le_of_ble_eq_true rfl) d_J_revision_1 ⟨Nat.zero_le _, Nat.zero_le _⟩ ?_
  refine lv_if_ne (tgt := 9) hx hb d_J_revision_4 (by decide) (fun h4 => ?_) (fun h4 => absurd (jw_eq0 (by omega) h4) (by omega))
  have h4 := jw_ne0 (by omega) h4
  refine lv_iload_n hx hb d_J_revision_9 rfl (lv_at hl 1 rfl) ?_
  refine lv_iconst (v := nI 3) hx hb d_J_revision_10 (by decide) ?_
  refine lv_icmp_ne (tgt := 24) hx hb d_J_revision_11 (by decide) (fun h11 => ?_) (fun h11 => absurd (jw_eq (by omega) (by omega) h11) (by omega))
  have h11 := jw_ne (by omega) (by omega) h11
  refine lv_aload_n hx hb d_J_revision_24 rfl (lv_at hl 0 rfl) ?_
  refine va_get (D := D) (ci := 5) (v := .ref ca) (C := jn_J) (T := jf_J) (N := 3) hx hb ht ji_J hown hK hP 0 rfl rfl 0 (by decide) (ht _ k_J_14) (fun _ h9 => h9) rfl d_J_revision_25 ?_
  refine lv_iload_n hx hb d_J_revision_28 rfl (lv_at hl 1 rfl) ?_
  refine jw_ald (v := .ref q) hx hb hK hP 1 0 rfl rfl rfl (vp_in_nI (by omega) (by decide)) (by rw [show (nI k).toNatClampNeg = k from nI_clamp (by omega)]; exact (by rw [hg]; rfl)) d_J_revision_29 ?_
  refine jw_rV (As := []) (rest := []) hx hb hml hown ht (m_C_known l D q e h g _ _ _ _ _) (o_C_known) k_J_113 rfl rfl ⟨Nat.le_of_ble_eq_true rfl, Nat.le_of_ble_eq_true rfl⟩ (hP.sub [2] rfl) (hK.sub [] rfl) (va_recv (q0 := 2) (ci := 0) hK hP rfl rfl) rfl hl.1 rfl (Nat.le_of_ble_eq_true rfl) d_J_revision_30 ⟨Nat.zero_le _, Nat.zero_le _⟩ ?_
  exact W.iret (v := v6) hx hb hr (fun t9 ht9 _ => ⟨rfl, ht9⟩) (fun q h => by cases h) d_J_revision_33

set_option maxHeartbeats 4000000 in
set_option maxRecDepth 100000 in
theorem m_J_pending_n (l : Launch) (D : va_G) (x : Nat) (v : Int32) (hn : ¬ (¬ v < 0 ∧ ¬ nI 3 ≤ v)) : Met l y_J_pending w_J_pending ({ frames := 1, cells := 0, slots := 0, locals := 20 }) (jw_P [.ref x, .int v] D jw_cl [] []) (k2_QcV (.int (-1))) 0 0 (fun _ => False) := by
  refine Met.ofW (cc := c_J_pending) (maxL := 2) (ret := (some .int)) (by decide) rfl ?_
  intro pg0 en0 s m args below meth cd0 s₁ B hml hv
  obtain ⟨rfl, hP, hK⟩ := hv
  have hx := B.exec
  have hb := B.bytes
  have hr := B.returns
  have hts := atoms_spec (ws := w_J_pending) B.pre
  have ht : ∀ w ∈ jw_tbl, w.before _ s = true := fun w h => hts w (List.mem_cons_of_mem _ h)
  have hown : s.vm.findClass jn_J = some m.cls := findClass_of_methodNamed B.named
  have hlocks := B.notSynchronized
  have hl := lv_entry ([.ref x, .int v]) (n := 2) (Nat.le_of_ble_eq_true rfl)
  rw [lg_entry_eq]
  generalize (lg_sl ([.ref x, .int v]) ++ List.replicate (2 - (lg_sl ([.ref x, .int v])).length) Slot.unset).toArray = ls at hl ⊢
  have hl : lv_has ls 2 [(0, .ref x), (1, .int v)] := hl
  refine lv_iload_n hx hb d_J_pending_0 rfl (lv_at hl 1 rfl) ?_
  refine jw_rS (As := [.int v]) (rest := []) hx hb hml hown ht (m_J_isClient_n l D v hn) (o_J_isClient) k_J_32 rfl rfl ⟨Nat.le_of_ble_eq_true rfl, Nat.le_of_ble_eq_true rfl⟩ (hP.sub [] rfl) (hK.sub [] rfl) rfl hl.1 rfl (Nat.le_of_ble_eq_true rfl) d_J_pending_1 ⟨Nat.zero_le _, Nat.zero_le _⟩ ?_
  refine lv_if_eq (tgt := 19) hx hb d_J_pending_4 (by decide) (fun h4 => ?_) (fun h4 => absurd (jw_ne0 (by omega) h4) (by omega))
  have h4 := jw_eq0 (by omega) h4
  refine lv_iconst (v := (-1)) hx hb d_J_pending_19 (by decide) ?_
  exact W.iret (v := (-1)) hx hb hr (fun t9 ht9 _ => ⟨rfl, ht9⟩) (fun q h => by cases h) d_J_pending_20

set_option maxHeartbeats 4000000 in
set_option maxRecDepth 100000 in
theorem m_J_pending_c (l : Launch) (D : va_G) (x ca z nn q e h g : Nat) (cC : ClassId) (gc : Nat → Option Nat) (v0 v4 v5 v6 v7 : Int32) (k : Nat) (hk : k < 3) (hg : gc k = some q) : Met l y_J_pending w_J_pending ({ frames := 1, cells := 0, slots := 0, locals := 20 }) (jw_P [.ref x, .int (nI k)] D jw_cl [(x, .inr (5, [.ref ca, .ref z, .ref nn])), (ca, .inl (cC, 3, .inr (.inr (.inr (.inr gc))))), (q, .inr (0, [.int v0, .ref h, .ref g, .ref e, .int v4, .int v5, .int v6, .int v7]))] [(cC, .object "JointText$Client")]) (k2_QcV (.int v4)) 0 0 (fun _ => False) := by
  refine Met.ofW (cc := c_J_pending) (maxL := 2) (ret := (some .int)) (by decide) rfl ?_
  intro pg0 en0 s m args below meth cd0 s₁ B hml hv
  obtain ⟨rfl, hP, hK⟩ := hv
  have hx := B.exec
  have hb := B.bytes
  have hr := B.returns
  have hts := atoms_spec (ws := w_J_pending) B.pre
  have ht : ∀ w ∈ jw_tbl, w.before _ s = true := fun w h => hts w (List.mem_cons_of_mem _ h)
  have hown : s.vm.findClass jn_J = some m.cls := findClass_of_methodNamed B.named
  have hlocks := B.notSynchronized
  have hl := lv_entry ([.ref x, .int (nI k)]) (n := 2) (Nat.le_of_ble_eq_true rfl)
  rw [lg_entry_eq]
  generalize (lg_sl ([.ref x, .int (nI k)]) ++ List.replicate (2 - (lg_sl ([.ref x, .int (nI k)])).length) Slot.unset).toArray = ls at hl ⊢
  have hl : lv_has ls 2 [(0, .ref x), (1, .int (nI k))] := hl
  refine lv_iload_n hx hb d_J_pending_0 rfl (lv_at hl 1 rfl) ?_
  refine jw_rS (As := [.int (nI k)]) (rest := []) hx hb hml hown ht (m_J_isClient_y l D k (by omega)) (o_J_isClient) k_J_32 rfl rfl ⟨Nat.le_of_ble_eq_true rfl, Nat.le_of_ble_eq_true rfl⟩ (hP.sub [] rfl) (hK.sub [] rfl) rfl hl.1 rfl (Nat.le_of_ble_eq_true rfl) d_J_pending_1 ⟨Nat.zero_le _, Nat.zero_le _⟩ ?_
  refine lv_if_eq (tgt := 19) hx hb d_J_pending_4 (by decide) (fun h4 => absurd (jw_eq0 (by omega) h4) (by omega)) (fun h4 => ?_)
  have h4 := jw_ne0 (by omega) h4
  refine lv_aload_n hx hb d_J_pending_7 rfl (lv_at hl 0 rfl) ?_
  refine va_get (D := D) (ci := 5) (v := .ref ca) (C := jn_J) (T := jf_J) (N := 3) hx hb ht ji_J hown hK hP 0 rfl rfl 0 (by decide) (ht _ k_J_14) (fun _ h9 => h9) rfl d_J_pending_8 ?_
  refine lv_iload_n hx hb d_J_pending_11 rfl (lv_at hl 1 rfl) ?_
  refine jw_ald (v := .ref q) hx hb hK hP 1 0 rfl rfl rfl (vp_in_nI (by omega) (by decide)) (by rw [show (nI k).toNatClampNeg = k from nI_clamp (by omega)]; exact (by rw [hg]; rfl)) d_J_pending_12 ?_
  refine jw_rV (As := []) (rest := []) hx hb hml hown ht (m_C_pendingCount l D q e h g _ _ _ _ _) (o_C_pendingCount) k_J_69 rfl rfl ⟨Nat.le_of_ble_eq_true rfl, Nat.le_of_ble_eq_true rfl⟩ (hP.sub [2] rfl) (hK.sub [] rfl) (va_recv (q0 := 2) (ci := 0) hK hP rfl rfl) rfl hl.1 rfl (Nat.le_of_ble_eq_true rfl) d_J_pending_13 ⟨Nat.zero_le _, Nat.zero_le _⟩ ?_
  refine lv_goto (tgt := 20) hx hb d_J_pending_16 (by decide) ?_
  exact W.iret (v := v4) hx hb hr (fun t9 ht9 _ => ⟨rfl, ht9⟩) (fun q h => by cases h) d_J_pending_20
