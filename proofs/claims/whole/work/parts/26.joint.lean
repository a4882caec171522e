theorem jw_sw5 (w : Int32) : w = nI 0 ∨ w = nI 1 ∨ w = nI 2 ∨ w = nI 3 ∨ w = nI 4 ∨ (w.toInt < 0 ∨ 4 < w.toInt) := by
  rcases pk_ix w (n := 5) (by decide) with h | h | ⟨j, hj, e⟩
  · refine Or.inr (Or.inr (Or.inr (Or.inr (Or.inr (Or.inl ?_)))))
    have := Int32.lt_iff_toInt_lt.mp h
    simpa using this
  · refine Or.inr (Or.inr (Or.inr (Or.inr (Or.inr (Or.inr ?_)))))
    have := Int32.le_iff_toInt_le.mp h
    rw [nI_toInt (by decide)] at this
    omega
  · have hj5 : j = 0 ∨ j = 1 ∨ j = 2 ∨ j = 3 ∨ j = 4 := by omega
    rcases hj5 with q | q | q | q | q <;> rw [q] at e <;> simp [e]
/-- what is read of an op, of a message -/
def jt_qo (H : Nat → jt_O) (num : Nat → Nat) (i : Nat) (w : Int32) : Int32 := if w = nI 0 then nI (H i).1 else if w = nI 1 then nI (H i).2.1 else if w = nI 2 then nI (H i).2.2.1 else if w = nI 3 then nI (H i).2.2.2 else if w = nI 4 then nI (num i) else (-1)
def jt_qm (L : jt_L) (k : Nat) (w : Int32) : Int32 := if w = nI 0 then nI (L.1 k).1 else if w = nI 1 then nI (L.1 k).2.1 else if w = nI 2 then nI (L.1 k).2.2.1 else if w = nI 3 then nI (L.1 k).2.2.2.1 else if w = nI 4 then (if (L.1 k).2.2.2.2.2 = 0 then nI 1 else nI 0) else (-1)
theorem jw_out5 {w : Int32} (h : w.toInt < 0 ∨ 4 < w.toInt) : ¬ w = nI 0 ∧ ¬ w = nI 1 ∧ ¬ w = nI 2 ∧ ¬ w = nI 3 ∧ ¬ w = nI 4 := by
  refine ⟨?_, ?_, ?_, ?_, ?_⟩ <;> intro e <;> rw [e, nI_toInt (by decide)] at h <;> omega

set_option maxHeartbeats 4000000 in
set_option maxRecDepth 100000 in
theorem m_J_op_n (l : Launch) (D : va_G) (x ca z nn ao an th : Nat) (v3 v4 v5 v w : Int32) (hn : ¬ (¬ v < 0 ∧ ¬ v3 ≤ v)) : Met l y_J_op w_J_op ({ frames := 1, cells := 0, slots := 0, locals := 21 }) (jw_P [.ref x, .int v, .int w] D jw_cl [(x, .inr (5, [.ref ca, .ref z, .ref nn])), (z, .inr (3, [.ref th, .ref ao, .ref an, .int v3, .int v4, .int v5]))] []) (k2_QcV (.int (-1))) 0 0 (fun _ => False) := by
  refine Met.ofW (cc := c_J_op) (maxL := 4) (ret := (some .int)) (by decide) rfl ?_
  intro pg0 en0 s m args below meth cd0 s₁ B hml hv
  obtain ⟨rfl, hP, hK⟩ := hv
  have hx := B.exec
  have hb := B.bytes
  have hr := B.returns
  have hts := atoms_spec (ws := w_J_op) B.pre
  have ht : ∀ w ∈ jw_tbl, w.before _ s = true := fun w h => hts w (List.mem_cons_of_mem _ h)
  have hown : s.vm.findClass jn_J = some m.cls := findClass_of_methodNamed B.named
  have hlocks := B.notSynchronized
  have hl := lv_entry ([.ref x, .int v, .int w]) (n := 4) (Nat.le_of_ble_eq_true rfl)
  rw [lg_entry_eq]
  generalize (lg_sl ([.ref x, .int v, .int w]) ++ List.replicate (4 - (lg_sl ([.ref x, .int v, .int w])).length) Slot.unset).toArray = ls at hl ⊢
  have hl : lv_has ls 4 [(0, .ref x), (1, .int v), (2, .int w)] := hl
  refine lv_aload_n hx hb d_J_op_0 rfl (lv_at hl 0 rfl) ?_
  refine va_get (D := D) (ci := 5) (v := .ref z) (C := jn_J) (T := jf_J) (N := 3) hx hb ht ji_J hown hK hP 0 rfl rfl 1 (by decide) (ht _ k_J_21) (fun _ h9 => h9) rfl d_J_op_1 ?_
  refine lv_iload_n hx hb d_J_op_4 rfl (lv_at hl 1 rfl) ?_
  refine jw_rV (As := [.int v]) (rest := []) hx hb hml hown ht (m_S_hasWritten_n l D z ao an th _ _ _ v hn) (o_S_hasWritten) k_J_116 rfl rfl ⟨Nat.le_of_ble_eq_true rfl, Nat.le_of_ble_eq_true rfl⟩ (hP.sub [1] rfl) (hK.sub [] rfl) (va_recv (q0 := 1) (ci := 3) hK hP rfl rfl) rfl hl.1 rfl (Nat.le_of_ble_eq_true rfl) d_J_op_5 ⟨Nat.zero_le _, Nat.zero_le _⟩ ?_
  refine lv_if_ne (tgt := 13) hx hb d_J_op_8 (by decide) (fun h8 => absurd (jw_ne0 (by omega) h8) (by omega)) (fun h8 => ?_)
  have h8 := jw_eq0 (by omega) h8
  refine lv_iconst (v := (-1)) hx hb d_J_op_11 (by decide) ?_
  exact W.iret (v := (-1)) hx hb hr (fun t9 ht9 _ => ⟨rfl, ht9⟩) (fun q h => by cases h) d_J_op_12

set_option maxHeartbeats 4000000 in
set_option maxRecDepth 100000 in
theorem m_J_op_y (l : Launch) (D : va_G) (x ca z nn ao an th : Nat) (cI : ClassId) (v4 v5 : Int32) (so sn : Nat → Int32) (H0 : Nat → jt_O) (N0 : Nat) (num : Nat → Nat) (hs : jt_rs so sn H0 N0 num) (hH : jt_all H0 N0) (hN : N0 ≤ 60) (i : Nat) (hi : i < N0) (w : Int32) : Met l y_J_op w_J_op ({ frames := 1, cells := 0, slots := 0, locals := 21 }) (jw_P [.ref x, .int (nI i), .int w] D jw_cl [(x, .inr (5, [.ref ca, .ref z, .ref nn])), (z, .inr (3, [.ref th, .ref ao, .ref an, .int (nI N0), .int v4, .int v5])), (ao, .inl (cI, 60, .inl so)), (an, .inl (cI, 60, .inl sn))] [(cI, .int)]) (k2_QcV (.int (jt_qo H0 num i w))) 0 0 (fun _ => False) := by
  refine Met.ofW (cc := c_J_op) (maxL := 4) (ret := (some .int)) (by decide) rfl ?_
  intro pg0 en0 s m args below meth cd0 s₁ B hml hv
  obtain ⟨rfl, hP, hK⟩ := hv
  have hx := B.exec
  have hb := B.bytes
  have hr := B.returns
  have hts := atoms_spec (ws := w_J_op) B.pre
  have ht : ∀ w ∈ jw_tbl, w.before _ s = true := fun w h => hts w (List.mem_cons_of_mem _ h)
  have hown : s.vm.findClass jn_J = some m.cls := findClass_of_methodNamed B.named
  have hlocks := B.notSynchronized
  have hl := lv_entry ([.ref x, .int (nI i), .int w]) (n := 4) (Nat.le_of_ble_eq_true rfl)
  rw [lg_entry_eq]
  generalize (lg_sl ([.ref x, .int (nI i), .int w]) ++ List.replicate (4 - (lg_sl ([.ref x, .int (nI i), .int w])).length) Slot.unset).toArray = ls at hl ⊢
  have hl : lv_has ls 4 [(0, .ref x), (1, .int (nI i)), (2, .int w)] := hl
  have hism := jt_hsm hH hN i hi
  refine lv_aload_n hx hb d_J_op_0 rfl (lv_at hl 0 rfl) ?_
  refine va_get (D := D) (ci := 5) (v := .ref z) (C := jn_J) (T := jf_J) (N := 3) hx hb ht ji_J hown hK hP 0 rfl rfl 1 (by decide) (ht _ k_J_21) (fun _ h9 => h9) rfl d_J_op_1 ?_
  refine lv_iload_n hx hb d_J_op_4 rfl (lv_at hl 1 rfl) ?_
  refine jw_rV (As := [.int (nI i)]) (rest := []) hx hb hml hown ht (m_S_hasWritten_y l D z ao an th _ _ _ i (by omega) (by omega)) (o_S_hasWritten) k_J_116 rfl rfl ⟨Nat.le_of_ble_eq_true rfl, Nat.le_of_ble_eq_true rfl⟩ (hP.sub [1] rfl) (hK.sub [] rfl) (va_recv (q0 := 1) (ci := 3) hK hP rfl rfl) rfl hl.1 rfl (Nat.le_of_ble_eq_true rfl) d_J_op_5 ⟨Nat.zero_le _, Nat.zero_le _⟩ ?_
  refine lv_if_ne (tgt := 13) hx hb d_J_op_8 (by decide) (fun h8 => ?_) (fun h8 => absurd (jw_eq0 (by omega) h8) (by omega))
  have h8 := jw_ne0 (by omega) h8
  refine lv_aload_n hx hb d_J_op_13 rfl (lv_at hl 0 rfl) ?_
  refine va_get (D := D) (ci := 5) (v := .ref z) (C := jn_J) (T := jf_J) (N := 3) hx hb ht ji_J hown hK hP 0 rfl rfl 1 (by decide) (ht _ k_J_21) (fun _ h9 => h9) rfl d_J_op_14 ?_
  refine lv_iload_n hx hb d_J_op_17 rfl (lv_at hl 1 rfl) ?_
  refine jw_rV (As := [.int (nI i)]) (rest := []) hx hb hml hown ht (m_S_opAt l D z ao an th _ _ _ cI _ i (by omega)) (o_S_opAt) k_J_119 rfl rfl ⟨Nat.le_of_ble_eq_true rfl, Nat.le_of_ble_eq_true rfl⟩ (hP.sub [1, 2] rfl) (hK.sub [0] rfl) (va_recv (q0 := 1) (ci := 3) hK hP rfl rfl) rfl hl.1 rfl (Nat.le_of_ble_eq_true rfl) d_J_op_18 ⟨Nat.zero_le _, Nat.zero_le _⟩ ?_
  rw [(hs i hi).1]
  refine lv_istore_n (lv' := [(3, .int (nI (jt_po (H0 i)))), (0, .ref x), (1, .int (nI i)), (2, .int w)]) hx hb d_J_op_21 rfl hl (by decide) rfl (fun ls hl => ?_)
  refine lv_iload_n hx hb d_J_op_22 rfl (lv_at hl 3 rfl) ?_
  rcases jw_sw5 w with e23 | e23 | e23 | e23 | e23 | e23
  · skip
    refine lv_tableIn (off := 33) (tgt := 56) hx hb d_J_op_23 (by rw [e23]; decide) (by rw [e23]; decide) (by rw [e23]; decide) (by decide) ?_
    refine lv_iload_n hx hb d_J_op_56 rfl (lv_at hl 0 rfl) ?_
    refine jw_rS (As := [.int (nI (jt_po (H0 i)))]) (rest := []) hx hb hml hown ht (m_O_kindOf l D (H0 i) hism) (o_O_kindOf) k_J_94 rfl rfl ⟨Nat.le_of_ble_eq_true rfl, Nat.le_of_ble_eq_true rfl⟩ (hP.sub [] rfl) (hK.sub [] rfl) rfl hl.1 rfl (Nat.le_of_ble_eq_true rfl) d_J_op_57 ⟨Nat.zero_le _, Nat.zero_le _⟩ ?_
    exact W.iret (v := nI ((H0 i).1)) hx hb hr (fun t9 ht9 _ => ⟨congrArg (fun z => Outcome.returned (some (Value.int z))) (by rw [e23]; rfl), ht9⟩) (fun q h => by cases h) d_J_op_60
  · skip
    refine lv_tableIn (off := 38) (tgt := 61) hx hb d_J_op_23 (by rw [e23]; decide) (by rw [e23]; decide) (by rw [e23]; decide) (by decide) ?_
    refine lv_iload_n hx hb d_J_op_61 rfl (lv_at hl 0 rfl) ?_
    refine jw_rS (As := [.int (nI (jt_po (H0 i)))]) (rest := []) hx hb hml hown ht (m_O_positionOf l D (H0 i) hism) (o_O_positionOf) k_J_122 rfl rfl ⟨Nat.le_of_ble_eq_true rfl, Nat.le_of_ble_eq_true rfl⟩ (hP.sub [] rfl) (hK.sub [] rfl) rfl hl.1 rfl (Nat.le_of_ble_eq_true rfl) d_J_op_62 ⟨Nat.zero_le _, Nat.zero_le _⟩ ?_
    exact W.iret (v := nI ((H0 i).2.1)) hx hb hr (fun t9 ht9 _ => ⟨congrArg (fun z => Outcome.returned (some (Value.int z))) (by rw [e23]; rfl), ht9⟩) (fun q h => by cases h) d_J_op_65
  · skip
    refine lv_tableIn (off := 43) (tgt := 66) hx hb d_J_op_23 (by rw [e23]; decide) (by rw [e23]; decide) (by rw [e23]; decide) (by decide) ?_
    refine lv_iload_n hx hb d_J_op_66 rfl (lv_at hl 0 rfl) ?_
    refine jw_rS (As := [.int (nI (jt_po (H0 i)))]) (rest := []) hx hb hml hown ht (m_O_characterOf l D (H0 i) hism) (o_O_characterOf) k_J_125 rfl rfl ⟨Nat.le_of_ble_eq_true rfl, Nat.le_of_ble_eq_true rfl⟩ (hP.sub [] rfl) (hK.sub [] rfl) rfl hl.1 rfl (Nat.le_of_ble_eq_true rfl) d_J_op_67 ⟨Nat.zero_le _, Nat.zero_le _⟩ ?_
    exact W.iret (v := nI ((H0 i).2.2.1)) hx hb hr (fun t9 ht9 _ => ⟨congrArg (fun z => Outcome.returned (some (Value.int z))) (by rw [e23]; rfl), ht9⟩) (fun q h => by cases h) d_J_op_70
  · skip
    refine lv_tableIn (off := 48) (tgt := 71) hx hb d_J_op_23 (by rw [e23]; decide) (by rw [e23]; decide) (by rw [e23]; decide) (by decide) ?_
    refine lv_iload_n hx hb d_J_op_71 rfl (lv_at hl 0 rfl) ?_
    refine jw_rS (As := [.int (nI (jt_po (H0 i)))]) (rest := []) hx hb hml hown ht (m_O_siteOf l D (H0 i) hism) (o_O_siteOf) k_J_128 rfl rfl ⟨Nat.le_of_ble_eq_true rfl, Nat.le_of_ble_eq_true rfl⟩ (hP.sub [] rfl) (hK.sub [] rfl) rfl hl.1 rfl (Nat.le_of_ble_eq_true rfl) d_J_op_72 ⟨Nat.zero_le _, Nat.zero_le _⟩ ?_
    exact W.iret (v := nI ((H0 i).2.2.2)) hx hb hr (fun t9 ht9 _ => ⟨congrArg (fun z => Outcome.returned (some (Value.int z))) (by rw [e23]; rfl), ht9⟩) (fun q h => by cases h) d_J_op_75
  · skip
    refine lv_tableIn (off := 53) (tgt := 76) hx hb d_J_op_23 (by rw [e23]; decide) (by rw [e23]; decide) (by rw [e23]; decide) (by decide) ?_
    refine lv_aload_n hx hb d_J_op_76 rfl (lv_at hl 1 rfl) ?_
    refine va_get (D := D) (ci := 5) (v := .ref z) (C := jn_J) (T := jf_J) (N := 3) hx hb ht ji_J hown hK hP 0 rfl rfl 1 (by decide) (ht _ k_J_21) (fun _ h9 => h9) rfl d_J_op_77 ?_
    refine lv_iload_n hx hb d_J_op_80 rfl (lv_at hl 2 rfl) ?_
    refine jw_rV (As := [.int (nI i)]) (rest := []) hx hb hml hown ht (m_S_numberAt l D z ao an th _ _ _ cI _ i (by omega)) (o_S_numberAt) k_J_131 rfl rfl ⟨Nat.le_of_ble_eq_true rfl, Nat.le_of_ble_eq_true rfl⟩ (hP.sub [1, 3] rfl) (hK.sub [0] rfl) (va_recv (q0 := 1) (ci := 3) hK hP rfl rfl) rfl hl.1 rfl (Nat.le_of_ble_eq_true rfl) d_J_op_81 ⟨Nat.zero_le _, Nat.zero_le _⟩ ?_
    rw [(hs i hi).2]
    exact W.iret (v := nI (num i)) hx hb hr (fun t9 ht9 _ => ⟨congrArg (fun z => Outcome.returned (some (Value.int z))) (by rw [e23]; rfl), ht9⟩) (fun q h => by cases h) d_J_op_84
  · skip
    refine lv_tableOut (tgt := 85) hx hb d_J_op_23 e23 (by decide) ?_
    refine lv_iconst (v := (-1)) hx hb d_J_op_85 (by decide) ?_
    exact W.iret (v := (-1)) hx hb hr (fun t9 ht9 _ => ⟨congrArg (fun z => Outcome.returned (some (Value.int z))) (by obtain ⟨n0, n1, n2, n3, n4⟩ := jw_out5 e23; unfold jt_qo; rw [if_neg n0, if_neg n1, if_neg n2, if_neg n3, if_neg n4]), ht9⟩) (fun q h => by cases h) d_J_op_86

set_option maxHeartbeats 4000000 in
set_option maxRecDepth 100000 in
theorem m_J_waiting (l : Launch) (D : va_G) (x ca z nn gg : Nat) (v1 : Int32) : Met l y_J_waiting w_J_waiting ({ frames := 1, cells := 0, slots := 0, locals := 20 }) (jw_P [.ref x] D jw_cl [(x, .inr (5, [.ref ca, .ref z, .ref nn])), (nn, .inr (1, [.ref gg, .int v1]))] []) (k2_QcV (.int v1)) 0 0 (fun _ => False) := by
  refine Met.ofW (cc := c_J_waiting) (maxL := 1) (ret := (some .int)) (by decide) rfl ?_
  intro pg0 en0 s m args below meth cd0 s₁ B hml hv
  obtain ⟨rfl, hP, hK⟩ := hv
  have hx := B.exec
  have hb := B.bytes
  have hr := B.returns
  have hts := atoms_spec (ws := w_J_waiting) B.pre
  have ht : ∀ w ∈ jw_tbl, w.before _ s = true := fun w h => hts w (List.mem_cons_of_mem _ h)
  have hown : s.vm.findClass jn_J = some m.cls := findClass_of_methodNamed B.named
  have hlocks := B.notSynchronized
  have hl := lv_entry ([.ref x]) (n := 1) (Nat.le_of_ble_eq_true rfl)
  rw [lg_entry_eq]
  generalize (lg_sl ([.ref x]) ++ List.replicate (1 - (lg_sl ([.ref x])).length) Slot.unset).toArray = ls at hl ⊢
  have hl : lv_has ls 1 [(0, .ref x)] := hl
  refine lv_aload_n hx hb d_J_waiting_0 rfl (lv_at hl 0 rfl) ?_
  refine va_get (D := D) (ci := 5) (v := .ref nn) (C := jn_J) (T := jf_J) (N := 3) hx hb ht ji_J hown hK hP 0 rfl rfl 2 (by decide) (ht _ k_J_28) (fun _ h9 => h9) rfl d_J_waiting_1 ?_
  refine jw_rV (As := []) (rest := []) hx hb hml hown ht (m_L_size l D nn gg _) (o_L_size) k_J_134 rfl rfl ⟨Nat.le_of_ble_eq_true rfl, Nat.le_of_ble_eq_true rfl⟩ (hP.sub [1] rfl) (hK.sub [] rfl) (va_recv (q0 := 1) (ci := 1) hK hP rfl rfl) rfl hl.1 rfl (Nat.le_of_ble_eq_true rfl) d_J_waiting_4 ⟨Nat.zero_le _, Nat.zero_le _⟩ ?_
  exact W.iret (v := v1) hx hb hr (fun t9 ht9 _ => ⟨rfl, ht9⟩) (fun q h => by cases h) d_J_waiting_7

set_option maxHeartbeats 4000000 in
set_option maxRecDepth 100000 in
theorem m_J_message_n (l : Launch) (D : va_G) (x ca z nn gg : Nat) (v1 v : Int32) (hn : ¬ (¬ v < 0 ∧ ¬ v1 ≤ v)) (w : Int32) : Met l y_J_message w_J_message ({ frames := 1, cells := 0, slots := 0, locals := 21 }) (jw_P [.ref x, .int v, .int w] D jw_cl [(x, .inr (5, [.ref ca, .ref z, .ref nn])), (nn, .inr (1, [.ref gg, .int v1]))] []) (k2_QcV (.int (-1))) 0 0 (fun _ => False) := by
  refine Met.ofW (cc := c_J_message) (maxL := 3) (ret := (some .int)) (by decide) rfl ?_
  intro pg0 en0 s m args below meth cd0 s₁ B hml hv
  obtain ⟨rfl, hP, hK⟩ := hv
  have hx := B.exec
  have hb := B.bytes
  have hr := B.returns
  have hts := atoms_spec (ws := w_J_message) B.pre
  have ht : ∀ w ∈ jw_tbl, w.before _ s = true := fun w h => hts w (List.mem_cons_of_mem _ h)
  have hown : s.vm.findClass jn_J = some m.cls := findClass_of_methodNamed B.named
  have hlocks := B.notSynchronized
  have hl := lv_entry ([.ref x, .int v, .int w]) (n := 3) (Nat.le_of_ble_eq_true rfl)
  rw [lg_entry_eq]
  generalize (lg_sl ([.ref x, .int v, .int w]) ++ List.replicate (3 - (lg_sl ([.ref x, .int v, .int w])).length) Slot.unset).toArray = ls at hl ⊢
  have hl : lv_has ls 3 [(0, .ref x), (1, .int v), (2, .int w)] := hl
  refine lv_aload_n hx hb d_J_message_0 rfl (lv_at hl 0 rfl) ?_
  refine va_get (D := D) (ci := 5) (v := .ref nn) (C := jn_J) (T := jf_J) (N := 3) hx hb ht ji_J hown hK hP 0 rfl rfl 2 (by decide) (ht _ k_J_28) (fun _ h9 => h9) rfl d_J_message_1 ?_
  refine lv_iload_n hx hb d_J_message_4 rfl (lv_at hl 1 rfl) ?_
  refine jw_rV (As := [.int v]) (rest := []) hx hb hml hown ht (m_L_has_n l D nn gg _ v hn) (o_L_has) k_J_135 rfl rfl ⟨Nat.le_of_ble_eq_true rfl, Nat.le_of_ble_eq_true rfl⟩ (hP.sub [1] rfl) (hK.sub [] rfl) (va_recv (q0 := 1) (ci := 1) hK hP rfl rfl) rfl hl.1 rfl (Nat.le_of_ble_eq_true rfl) d_J_message_5 ⟨Nat.zero_le _, Nat.zero_le _⟩ ?_
  refine lv_if_ne (tgt := 13) hx hb d_J_message_8 (by decide) (fun h8 => absurd (jw_ne0 (by omega) h8) (by omega)) (fun h8 => ?_)
  have h8 := jw_eq0 (by omega) h8
  refine lv_iconst (v := (-1)) hx hb d_J_message_11 (by decide) ?_
  exact W.iret (v := (-1)) hx hb hr (fun t9 ht9 _ => ⟨rfl, ht9⟩) (fun q h => by cases h) d_J_message_12

set_option maxHeartbeats 4000000 in
set_option maxRecDepth 100000 in
theorem m_J_message_y (l : Launch) (D : va_G) (x ca z : Nat) (nn gg : Nat) (ad : Nat → Nat) (cI cG : ClassId) (M : Nat → Nat → Int32) (L0 : jt_L) (hM : jt_rm M L0) (hL30 : L0.2 ≤ 30) (k : Nat) (hk : k < L0.2) (hmk : (L0.1 k).2.2.2.2.2 < 256) (w : Int32) : Met l y_J_message w_J_message ({ frames := 1, cells := 0, slots := 0, locals := 21 }) (jw_P [.ref x, .int (nI k), .int w] D jw_cl (([(x, .inr (5, [.ref ca, .ref z, .ref nn])), (nn, .inr (1, [.ref gg, .int (nI L0.2)])), (gg, .inl (cG, 30, .inr (.inr (.inr (.inr (jx_o ad))))))] : va_W) ++ jx_r ad cI M) [(cI, .int), (cG, .array .int)]) (k2_QcV (.int (jt_qm L0 k w))) 0 0 (fun _ => False) := by
  refine Met.ofW (cc := c_J_message) (maxL := 3) (ret := (some .int)) (by decide) rfl ?_
  intro pg0 en0 s m args below meth cd0 s₁ B hml hv
  obtain ⟨rfl, hP, hK⟩ := hv
  have hx := B.exec
  have hb := B.bytes
  have hr := B.returns
  have hts := atoms_spec (ws := w_J_message) B.pre
  have ht : ∀ w ∈ jw_tbl, w.before _ s = true := fun w h => hts w (List.mem_cons_of_mem _ h)
  have hown : s.vm.findClass jn_J = some m.cls := findClass_of_methodNamed B.named
  have hlocks := B.notSynchronized
  have hl := lv_entry ([.ref x, .int (nI k), .int w]) (n := 3) (Nat.le_of_ble_eq_true rfl)
  rw [lg_entry_eq]
  generalize (lg_sl ([.ref x, .int (nI k), .int w]) ++ List.replicate (3 - (lg_sl ([.ref x, .int (nI k), .int w])).length) Slot.unset).toArray = ls at hl ⊢
  have hl : lv_has ls 3 [(0, .ref x), (1, .int (nI k)), (2, .int w)] := hl
  obtain ⟨k0, k1, k2, k3, k4, k5⟩ := hM k hk
  refine lv_aload_n hx hb d_J_message_0 rfl (lv_at hl 0 rfl) ?_
  refine va_get (D := D) (ci := 5) (v := .ref nn) (C := jn_J) (T := jf_J) (N := 3) hx hb ht ji_J hown hK hP 0 rfl rfl 2 (by decide) (ht _ k_J_28) (fun _ h9 => h9) rfl d_J_message_1 ?_
  refine lv_iload_n hx hb d_J_message_4 rfl (lv_at hl 1 rfl) ?_
  refine jw_rV (As := [.int (nI k)]) (rest := []) hx hb hml hown ht (m_L_has_y l D nn gg _ k (by omega) (by omega)) (o_L_has) k_J_135 rfl rfl ⟨Nat.le_of_ble_eq_true rfl, Nat.le_of_ble_eq_true rfl⟩ (jw_subP hP [1] rfl) (hK.sub [] rfl) (va_recv (q0 := 1) (ci := 1) hK hP rfl rfl) rfl hl.1 rfl (Nat.le_of_ble_eq_true rfl) d_J_message_5 ⟨Nat.zero_le _, Nat.zero_le _⟩ ?_
  refine lv_if_ne (tgt := 13) hx hb d_J_message_8 (by decide) (fun h8 => ?_) (fun h8 => absurd (jw_eq0 (by omega) h8) (by omega))
  have h8 := jw_ne0 (by omega) h8
  refine lv_iload_n hx hb d_J_message_13 rfl (lv_at hl 2 rfl) ?_
  rcases jw_sw5 w with e14 | e14 | e14 | e14 | e14 | e14
  · skip
    refine lv_tableIn (off := 34) (tgt := 48) hx hb d_J_message_14 (by rw [e14]; decide) (by rw [e14]; decide) (by rw [e14]; decide) (by decide) ?_
    refine lv_aload_n hx hb d_J_message_48 rfl (lv_at hl 0 rfl) ?_
    refine va_get (D := D) (ci := 5) (v := .ref nn) (C := jn_J) (T := jf_J) (N := 3) hx hb ht ji_J hown hK hP 0 rfl rfl 2 (by decide) (ht _ k_J_28) (fun _ h9 => h9) rfl d_J_message_49 ?_
    refine lv_iload_n hx hb d_J_message_52 rfl (lv_at hl 1 rfl) ?_
    refine jw_rV (As := [.int (nI k)]) (rest := []) hx hb hml hown ht (m_L_kindAt l D nn gg ad cI cG M _ k (by omega)) (o_L_kindAt) k_J_136 rfl rfl ⟨Nat.le_of_ble_eq_true rfl, Nat.le_of_ble_eq_true rfl⟩ (hP.part [1, 2] rfl) (hK.sub [0, 1] rfl) (va_recv (q0 := 1) (ci := 1) hK hP rfl rfl) rfl hl.1 rfl (Nat.le_of_ble_eq_true rfl) d_J_message_53 ⟨Nat.zero_le _, Nat.zero_le _⟩ ?_
    rw [k0]
    exact W.iret (v := nI ((L0.1 k).1)) hx hb hr (fun t9 ht9 _ => ⟨congrArg (fun z => Outcome.returned (some (Value.int z))) (by rw [e14]; rfl), ht9⟩) (fun q h => by cases h) d_J_message_56
  · skip
    refine lv_tableIn (off := 43) (tgt := 57) hx hb d_J_message_14 (by rw [e14]; decide) (by rw [e14]; decide) (by rw [e14]; decide) (by decide) ?_
    refine lv_aload_n hx hb d_J_message_57 rfl (lv_at hl 0 rfl) ?_
    refine va_get (D := D) (ci := 5) (v := .ref nn) (C := jn_J) (T := jf_J) (N := 3) hx hb ht ji_J hown hK hP 0 rfl rfl 2 (by decide) (ht _ k_J_28) (fun _ h9 => h9) rfl d_J_message_58 ?_
    refine lv_iload_n hx hb d_J_message_61 rfl (lv_at hl 1 rfl) ?_
    refine jw_rV (As := [.int (nI k)]) (rest := []) hx hb hml hown ht (m_L_clientAt l D nn gg ad cI cG M _ k (by omega)) (o_L_clientAt) k_J_139 rfl rfl ⟨Nat.le_of_ble_eq_true rfl, Nat.le_of_ble_eq_true rfl⟩ (hP.part [1, 2] rfl) (hK.sub [0, 1] rfl) (va_recv (q0 := 1) (ci := 1) hK hP rfl rfl) rfl hl.1 rfl (Nat.le_of_ble_eq_true rfl) d_J_message_62 ⟨Nat.zero_le _, Nat.zero_le _⟩ ?_
    rw [k1]
    exact W.iret (v := nI ((L0.1 k).2.1)) hx hb hr (fun t9 ht9 _ => ⟨congrArg (fun z => Outcome.returned (some (Value.int z))) (by rw [e14]; rfl), ht9⟩) (fun q h => by cases h) d_J_message_65
  · skip
    refine lv_tableIn (off := 52) (tgt := 66) hx hb d_J_message_14 (by rw [e14]; decide) (by rw [e14]; decide) (by rw [e14]; decide) (by decide) ?_
    refine lv_aload_n hx hb d_J_message_66 rfl (lv_at hl 0 rfl) ?_
    refine va_get (D := D) (ci := 5) (v := .ref nn) (C := jn_J) (T := jf_J) (N := 3) hx hb ht ji_J hown hK hP 0 rfl rfl 2 (by decide) (ht _ k_J_28) (fun _ h9 => h9) rfl d_J_message_67 ?_
    refine lv_iload_n hx hb d_J_message_70 rfl (lv_at hl 1 rfl) ?_
    refine jw_rV (As := [.int (nI k)]) (rest := []) hx hb hml hown ht (m_L_revisionAt l D nn gg ad cI cG M _ k (by omega)) (o_L_revisionAt) k_J_142 rfl rfl ⟨Nat.le_of_ble_eq_true rfl, Nat.le_of_ble_eq_true rfl⟩ (hP.part [1, 2] rfl) (hK.sub [0, 1] rfl) (va_recv (q0 := 1) (ci := 1) hK hP rfl rfl) rfl hl.1 rfl (Nat.le_of_ble_eq_true rfl) d_J_message_71 ⟨Nat.zero_le _, Nat.zero_le _⟩ ?_
    rw [k2]
    exact W.iret (v := nI ((L0.1 k).2.2.1)) hx hb hr (fun t9 ht9 _ => ⟨congrArg (fun z => Outcome.returned (some (Value.int z))) (by rw [e14]; rfl), ht9⟩) (fun q h => by cases h) d_J_message_74
  · skip
    refine lv_tableIn (off := 61) (tgt := 75) hx hb d_J_message_14 (by rw [e14]; decide) (by rw [e14]; decide) (by rw [e14]; decide) (by decide) ?_
    refine lv_aload_n hx hb d_J_message_75 rfl (lv_at hl 0 rfl) ?_
    refine va_get (D := D) (ci := 5) (v := .ref nn) (C := jn_J) (T := jf_J) (N := 3) hx hb ht ji_J hown hK hP 0 rfl rfl 2 (by decide) (ht _ k_J_28) (fun _ h9 => h9) rfl d_J_message_76 ?_
    refine lv_iload_n hx hb d_J_message_79 rfl (lv_at hl 1 rfl) ?_
    refine jw_rV (As := [.int (nI k)]) (rest := []) hx hb hml hown ht (m_L_numberAt l D nn gg ad cI cG M _ k (by omega)) (o_L_numberAt) k_J_145 rfl rfl ⟨Nat.le_of_ble_eq_true rfl, Nat.le_of_ble_eq_true rfl⟩ (hP.part [1, 2] rfl) (hK.sub [0, 1] rfl) (va_recv (q0 := 1) (ci := 1) hK hP rfl rfl) rfl hl.1 rfl (Nat.le_of_ble_eq_true rfl) d_J_message_80 ⟨Nat.zero_le _, Nat.zero_le _⟩ ?_
    rw [k3]
    exact W.iret (v := nI ((L0.1 k).2.2.2.1)) hx hb hr (fun t9 ht9 _ => ⟨congrArg (fun z => Outcome.returned (some (Value.int z))) (by rw [e14]; rfl), ht9⟩) (fun q h => by cases h) d_J_message_83
  · skip
    refine lv_tableIn (off := 70) (tgt := 84) hx hb d_J_message_14 (by rw [e14]; decide) (by rw [e14]; decide) (by rw [e14]; decide) (by decide) ?_
    refine lv_aload_n hx hb d_J_message_84 rfl (lv_at hl 0 rfl) ?_
    refine va_get (D := D) (ci := 5) (v := .ref nn) (C := jn_J) (T := jf_J) (N := 3) hx hb ht ji_J hown hK hP 0 rfl rfl 2 (by decide) (ht _ k_J_28) (fun _ h9 => h9) rfl d_J_message_85 ?_
    refine lv_iload_n hx hb d_J_message_88 rfl (lv_at hl 1 rfl) ?_
    refine jw_rV (As := [.int (nI k)]) (rest := []) hx hb hml hown ht (m_L_isWhole l D nn gg ad cI cG M _ k (by omega)) (o_L_isWhole) k_J_146 rfl rfl ⟨Nat.le_of_ble_eq_true rfl, Nat.le_of_ble_eq_true rfl⟩ (hP.part [1, 2] rfl) (hK.sub [0, 1] rfl) (va_recv (q0 := 1) (ci := 1) hK hP rfl rfl) rfl hl.1 rfl (Nat.le_of_ble_eq_true rfl) d_J_message_89 ⟨Nat.zero_le _, Nat.zero_le _⟩ ?_
    refine lv_if_eq (tgt := 99) hx hb d_J_message_92 (by decide) (fun h92 => ?_) (fun h92 => ?_)
    · skip
      have hz9 : ¬ (L0.1 k).2.2.2.2.2 = 0 := fun z9 => of_decide_eq_false (jw_b0 h92) (by rw [k5, z9]; exact nI_0)
      refine lv_iconst (v := nI 0) hx hb d_J_message_99 (by decide) ?_
      exact W.iret (v := nI 0) hx hb hr (fun t9 ht9 _ => ⟨congrArg (fun z => Outcome.returned (some (Value.int z))) (by rw [e14]; first | (show nI 1 = (if _ = 0 then nI 1 else nI 0); rw [if_pos hz9]) | (show nI 0 = (if _ = 0 then nI 1 else nI 0); rw [if_neg hz9])), ht9⟩) (fun q h => by cases h) d_J_message_100
    · skip
      have hz9 : (L0.1 k).2.2.2.2.2 = 0 := jw_eq0 (by omega) (k5 ▸ of_decide_eq_true (jw_b1 h92))
      refine lv_iconst (v := nI 1) hx hb d_J_message_95 (by decide) ?_
      refine lv_goto (tgt := 100) hx hb d_J_message_96 (by decide) ?_
      exact W.iret (v := nI 1) hx hb hr (fun t9 ht9 _ => ⟨congrArg (fun z => Outcome.returned (some (Value.int z))) (by rw [e14]; first | (show nI 1 = (if _ = 0 then nI 1 else nI 0); rw [if_pos hz9]) | (show nI 0 = (if _ = 0 then nI 1 else nI 0); rw [if_neg hz9])), ht9⟩) (fun q h => by cases h) d_J_message_100
  · skip
    refine lv_tableOut (tgt := 101) hx hb d_J_message_14 e14 (by decide) ?_
    refine lv_iconst (v := (-1)) hx hb d_J_message_101 (by decide) ?_
    exact W.iret (v := (-1)) hx hb hr (fun t9 ht9 _ => ⟨congrArg (fun z => Outcome.returned (some (Value.int z))) (by obtain ⟨n0, n1, n2, n3, n4⟩ := jw_out5 e14; unfold jt_qm; rw [if_neg n0, if_neg n1, if_neg n2, if_neg n3, if_neg n4]), ht9⟩) (fun q h => by cases h) d_J_message_102

set_option maxHeartbeats 4000000 in
set_option maxRecDepth 100000 in
theorem m_J_lose_n (l : Launch) (D : va_G) (x ca z nn gg : Nat) (v1 v : Int32) (hn : ¬ (¬ v < 0 ∧ ¬ v1 ≤ v)) : Met l y_J_lose w_J_lose ({ frames := 1, cells := 0, slots := 0, locals := 21 }) (jw_P [.ref x, .int v] D jw_cl [(x, .inr (5, [.ref ca, .ref z, .ref nn])), (nn, .inr (1, [.ref gg, .int v1]))] []) (k2_QcV (.int (nI 0))) 0 0 (fun _ => False) := by
  refine Met.ofW (cc := c_J_lose) (maxL := 2) (ret := (some .boolean)) (by decide) rfl ?_
  intro pg0 en0 s m args below meth cd0 s₁ B hml hv
  obtain ⟨rfl, hP, hK⟩ := hv
  have hx := B.exec
  have hb := B.bytes
  have hr := B.returns
  have hts := atoms_spec (ws := w_J_lose) B.pre
  have ht : ∀ w ∈ jw_tbl, w.before _ s = true := fun w h => hts w (List.mem_cons_of_mem _ h)
  have hown : s.vm.findClass jn_J = some m.cls := findClass_of_methodNamed B.named
  have hlocks := B.notSynchronized
  have hl := lv_entry ([.ref x, .int v]) (n := 2) (Nat.le_of_ble_eq_true rfl)
  rw [lg_entry_eq]
  generalize (lg_sl ([.ref x, .int v]) ++ List.replicate (2 - (lg_sl ([.ref x, .int v])).length) Slot.unset).toArray = ls at hl ⊢
  have hl : lv_has ls 2 [(0, .ref x), (1, .int v)] := hl
  refine lv_aload_n hx hb d_J_lose_0 rfl (lv_at hl 0 rfl) ?_
  refine va_get (D := D) (ci := 5) (v := .ref nn) (C := jn_J) (T := jf_J) (N := 3) hx hb ht ji_J hown hK hP 0 rfl rfl 2 (by decide) (ht _ k_J_28) (fun _ h9 => h9) rfl d_J_lose_1 ?_
  refine lv_iload_n hx hb d_J_lose_4 rfl (lv_at hl 1 rfl) ?_
  refine jw_rV (As := [.int v]) (rest := []) hx hb hml hown ht (m_L_has_n l D nn gg _ v hn) (o_L_has) k_J_135 rfl rfl ⟨Nat.le_of_ble_eq_true rfl, Nat.le_of_ble_eq_true rfl⟩ (hP.sub [1] rfl) (hK.sub [] rfl) (va_recv (q0 := 1) (ci := 1) hK hP rfl rfl) rfl hl.1 rfl (Nat.le_of_ble_eq_true rfl) d_J_lose_5 ⟨Nat.zero_le _, Nat.zero_le _⟩ ?_
  refine lv_if_ne (tgt := 13) hx hb d_J_lose_8 (by decide) (fun h8 => absurd (jw_ne0 (by omega) h8) (by omega)) (fun h8 => ?_)
  have h8 := jw_eq0 (by omega) h8
  refine lv_iconst (v := nI 0) hx hb d_J_lose_11 (by decide) ?_
  exact W.zret (v := nI 0) hx hb hr (by decide) (fun t9 ht9 _ => ⟨rfl, ht9⟩) (fun q h => by cases h) d_J_lose_12

set_option maxHeartbeats 4000000 in
set_option maxRecDepth 100000 in
theorem m_J_harm_n (l : Launch) (D : va_G) (x ca z nn gg : Nat) (v1 v : Int32) (hn : ¬ (¬ v < 0 ∧ ¬ v1 ≤ v)) (y : Int32) : Met l y_J_harm w_J_harm ({ frames := 1, cells := 0, slots := 0, locals := 21 }) (jw_P [.ref x, .int v, .int y] D jw_cl [(x, .inr (5, [.ref ca, .ref z, .ref nn])), (nn, .inr (1, [.ref gg, .int v1]))] []) (k2_QcV (.int (nI 0))) 0 0 (fun _ => False) := by
  refine Met.ofW (cc := c_J_harm) (maxL := 3) (ret := (some .boolean)) (by decide) rfl ?_
  intro pg0 en0 s m args below meth cd0 s₁ B hml hv
  obtain ⟨rfl, hP, hK⟩ := hv
  have hx := B.exec
  have hb := B.bytes
  have hr := B.returns
  have hts := atoms_spec (ws := w_J_harm) B.pre
  have ht : ∀ w ∈ jw_tbl, w.before _ s = true := fun w h => hts w (List.mem_cons_of_mem _ h)
  have hown : s.vm.findClass jn_J = some m.cls := findClass_of_methodNamed B.named
  have hlocks := B.notSynchronized
  have hl := lv_entry ([.ref x, .int v, .int y]) (n := 3) (Nat.le_of_ble_eq_true rfl)
  rw [lg_entry_eq]
  generalize (lg_sl ([.ref x, .int v, .int y]) ++ List.replicate (3 - (lg_sl ([.ref x, .int v, .int y])).length) Slot.unset).toArray = ls at hl ⊢
  have hl : lv_has ls 3 [(0, .ref x), (1, .int v), (2, .int y)] := hl
  refine lv_aload_n hx hb d_J_harm_0 rfl (lv_at hl 0 rfl) ?_
  refine va_get (D := D) (ci := 5) (v := .ref nn) (C := jn_J) (T := jf_J) (N := 3) hx hb ht ji_J hown hK hP 0 rfl rfl 2 (by decide) (ht _ k_J_28) (fun _ h9 => h9) rfl d_J_harm_1 ?_
  refine lv_iload_n hx hb d_J_harm_4 rfl (lv_at hl 1 rfl) ?_
  refine jw_rV (As := [.int v]) (rest := []) hx hb hml hown ht (m_L_has_n l D nn gg _ v hn) (o_L_has) k_J_135 rfl rfl ⟨Nat.le_of_ble_eq_true rfl, Nat.le_of_ble_eq_true rfl⟩ (hP.sub [1] rfl) (hK.sub [] rfl) (va_recv (q0 := 1) (ci := 1) hK hP rfl rfl) rfl hl.1 rfl (Nat.le_of_ble_eq_true rfl) d_J_harm_5 ⟨Nat.zero_le _, Nat.zero_le _⟩ ?_
  refine lv_if_ne (tgt := 13) hx hb d_J_harm_8 (by decide) (fun h8 => absurd (jw_ne0 (by omega) h8) (by omega)) (fun h8 => ?_)
  have h8 := jw_eq0 (by omega) h8
  refine lv_iconst (v := nI 0) hx hb d_J_harm_11 (by decide) ?_
  exact W.zret (v := nI 0) hx hb hr (by decide) (fun t9 ht9 _ => ⟨rfl, ht9⟩) (fun q h => by cases h) d_J_harm_12

set_option maxHeartbeats 4000000 in
set_option maxRecDepth 100000 in
theorem m_J_repeat_n (l : Launch) (D : va_G) (x ca z nn gg : Nat) (v1 v : Int32) (hn : ¬ (¬ v < 0 ∧ ¬ v1 ≤ v)) : Met l y_J_repeat w_J_repeat ({ frames := 1, cells := 0, slots := 0, locals := 21 }) (jw_P [.ref x, .int v] D jw_cl [(x, .inr (5, [.ref ca, .ref z, .ref nn])), (nn, .inr (1, [.ref gg, .int v1]))] []) (k2_QcV (.int (nI 0))) 0 0 (fun _ => False) := by
  refine Met.ofW (cc := c_J_repeat) (maxL := 2) (ret := (some .boolean)) (by decide) rfl ?_
  intro pg0 en0 s m args below meth cd0 s₁ B hml hv
  obtain ⟨rfl, hP, hK⟩ := hv
  have hx := B.exec
  have hb := B.bytes
  have hr := B.returns
  have hts := atoms_spec (ws := w_J_repeat) B.pre
  have ht : ∀ w ∈ jw_tbl, w.before _ s = true := fun w h => hts w (List.mem_cons_of_mem _ h)
  have hown : s.vm.findClass jn_J = some m.cls := findClass_of_methodNamed B.named
  have hlocks := B.notSynchronized
  have hl := lv_entry ([.ref x, .int v]) (n := 2) (Nat.le_of_ble_eq_true rfl)
  rw [lg_entry_eq]
  generalize (lg_sl ([.ref x, .int v]) ++ List.replicate (2 - (lg_sl ([.ref x, .int v])).length) Slot.unset).toArray = ls at hl ⊢
  have hl : lv_has ls 2 [(0, .ref x), (1, .int v)] := hl
  refine lv_aload_n hx hb d_J_repeat_0 rfl (lv_at hl 0 rfl) ?_
  refine va_get (D := D) (ci := 5) (v := .ref nn) (C := jn_J) (T := jf_J) (N := 3) hx hb ht ji_J hown hK hP 0 rfl rfl 2 (by decide) (ht _ k_J_28) (fun _ h9 => h9) rfl d_J_repeat_1 ?_
  refine lv_iload_n hx hb d_J_repeat_4 rfl (lv_at hl 1 rfl) ?_
  refine jw_rV (As := [.int v]) (rest := []) hx hb hml hown ht (m_L_has_n l D nn gg _ v hn) (o_L_has) k_J_135 rfl rfl ⟨Nat.le_of_ble_eq_true rfl, Nat.le_of_ble_eq_true rfl⟩ (hP.sub [1] rfl) (hK.sub [] rfl) (va_recv (q0 := 1) (ci := 1) hK hP rfl rfl) rfl hl.1 rfl (Nat.le_of_ble_eq_true rfl) d_J_repeat_5 ⟨Nat.zero_le _, Nat.zero_le _⟩ ?_
  refine lv_if_eq (tgt := 21) hx hb d_J_repeat_8 (by decide) (fun h8 => ?_) (fun h8 => absurd (jw_ne0 (by omega) h8) (by omega))
  have h8 := jw_eq0 (by omega) h8
  refine lv_iconst (v := nI 0) hx hb d_J_repeat_21 (by decide) ?_
  exact W.zret (v := nI 0) hx hb hr (by decide) (fun t9 ht9 _ => ⟨rfl, ht9⟩) (fun q h => by cases h) d_J_repeat_22

set_option maxHeartbeats 4000000 in
set_option maxRecDepth 100000 in
theorem m_J_repeat_f (l : Launch) (D : va_G) (x ca z nn gg n k : Nat) (hk : k < n) (hn0 : n = 30) : Met l y_J_repeat w_J_repeat ({ frames := 1, cells := 0, slots := 0, locals := 21 }) (jw_P [.ref x, .int (nI k)] D jw_cl [(x, .inr (5, [.ref ca, .ref z, .ref nn])), (nn, .inr (1, [.ref gg, .int (nI n)]))] []) (k2_QcV (.int (nI 0))) 0 0 (fun _ => False) := by
  refine Met.ofW (cc := c_J_repeat) (maxL := 2) (ret := (some .boolean)) (by decide) rfl ?_
  intro pg0 en0 s m args below meth cd0 s₁ B hml hv
  obtain ⟨rfl, hP, hK⟩ := hv
  have hx := B.exec
  have hb := B.bytes
  have hr := B.returns
  have hts := atoms_spec (ws := w_J_repeat) B.pre
  have ht : ∀ w ∈ jw_tbl, w.before _ s = true := fun w h => hts w (List.mem_cons_of_mem _ h)
  have hown : s.vm.findClass jn_J = some m.cls := findClass_of_methodNamed B.named
  have hlocks := B.notSynchronized
  have hl := lv_entry ([.ref x, .int (nI k)]) (n := 2) (Nat.le_of_ble_eq_true rfl)
  rw [lg_entry_eq]
  generalize (lg_sl ([.ref x, .int (nI k)]) ++ List.replicate (2 - (lg_sl ([.ref x, .int (nI k)])).length) Slot.unset).toArray = ls at hl ⊢
  have hl : lv_has ls 2 [(0, .ref x), (1, .int (nI k))] := hl
  refine lv_aload_n hx hb d_J_repeat_0 rfl (lv_at hl 0 rfl) ?_
  refine va_get (D := D) (ci := 5) (v := .ref nn) (C := jn_J) (T := jf_J) (N := 3) hx hb ht ji_J hown hK hP 0 rfl rfl 2 (by decide) (ht _ k_J_28) (fun _ h9 => h9) rfl d_J_repeat_1 ?_
  refine lv_iload_n hx hb d_J_repeat_4 rfl (lv_at hl 1 rfl) ?_
  refine jw_rV (As := [.int (nI k)]) (rest := []) hx hb hml hown ht (m_L_has_y l D nn gg _ k (by omega) (by omega)) (o_L_has) k_J_135 rfl rfl ⟨Nat.le_of_ble_eq_true rfl, Nat.le_of_ble_eq_true rfl⟩ (hP.sub [1] rfl) (hK.sub [] rfl) (va_recv (q0 := 1) (ci := 1) hK hP rfl rfl) rfl hl.1 rfl (Nat.le_of_ble_eq_true rfl) d_J_repeat_5 ⟨Nat.zero_le _, Nat.zero_le _⟩ ?_
  refine lv_if_eq (tgt := 21) hx hb d_J_repeat_8 (by decide) (fun h8 => absurd (jw_eq0 (by omega) h8) (by omega)) (fun h8 => ?_)
  have h8 := jw_ne0 (by omega) h8
  refine lv_aload_n hx hb d_J_repeat_11 rfl (lv_at hl 0 rfl) ?_
  refine va_get (D := D) (ci := 5) (v := .ref nn) (C := jn_J) (T := jf_J) (N := 3) hx hb ht ji_J hown hK hP 0 rfl rfl 2 (by decide) (ht _ k_J_28) (fun _ h9 => h9) rfl d_J_repeat_12 ?_
  refine jw_rV (As := []) (rest := []) hx hb hml hown ht (m_L_isFull l D nn gg _ (by omega)) (o_L_isFull) k_J_168 rfl rfl ⟨Nat.le_of_ble_eq_true rfl, Nat.le_of_ble_eq_true rfl⟩ (hP.sub [1] rfl) (hK.sub [] rfl) (va_recv (q0 := 1) (ci := 1) hK hP rfl rfl) rfl hl.1 rfl (Nat.le_of_ble_eq_true rfl) d_J_repeat_15 ⟨Nat.zero_le _, Nat.zero_le _⟩ ?_
  refine lv_if_eq (tgt := 23) hx hb d_J_repeat_18 (by decide) (fun h18 => absurd (of_decide_eq_false (jw_b0 h18)) (by omega)) (fun h18 => ?_)
  refine lv_iconst (v := nI 0) hx hb d_J_repeat_21 (by decide) ?_
  exact W.zret (v := nI 0) hx hb hr (by decide) (fun t9 ht9 _ => ⟨rfl, ht9⟩) (fun q h => by cases h) d_J_repeat_22

set_option maxHeartbeats 4000000 in
set_option maxRecDepth 100000 in
theorem m_J_lose_y (l : Launch) (D : va_G) (sz : Nat) (x ca z : Nat) (nn gg : Nat) (ad : Nat → Nat) (cI cG : ClassId) (M : Nat → Nat → Int32) (L0 : jt_L) (hM : jt_rm M L0) (hL30 : L0.2 ≤ 30) (k : Nat) (hk : k < L0.2) : Met l y_J_lose w_J_lose ({ frames := 3, cells := 0, slots := 0, locals := 62 }) (jw_C [.ref x, .int (nI k)] D jw_cl (([(x, .inr (5, [.ref ca, .ref z, .ref nn])), (nn, .inr (1, [.ref gg, .int (nI L0.2)])), (gg, .inl (cG, 30, .inr (.inr (.inr (.inr (jx_o ad))))))] : va_W) ++ jx_r ad cI M) [(cI, .int), (cG, .array .int)] sz) (va_Qi (fun (r : Int32) (u : Nat → Nat → Int32) => r = nI 1 ∧ jt_rm u (jt_tk L0 k)) (jw_B D jw_cl (va_A (([(x, .inr (5, [.ref ca, .ref z, .ref nn])), (nn, .inr (1, [.ref gg, .int (nI L0.2)])), (gg, .inl (cG, 30, .inr (.inr (.inr (.inr (jx_o ad))))))] : va_W) ++ jx_r ad cI M) sz) (fun u : Nat → Nat → Int32 => ([(x, .inr (5, [.ref ca, .ref z, .ref nn])), (nn, .inr (1, [.ref gg, .int (nI ((jt_tk L0 k).2))])), (gg, .inl (cG, 30, .inr (.inr (.inr (.inr (jx_o ad))))))] : va_W) ++ jx_r ad cI u)) (va_A (([(x, .inr (5, [.ref ca, .ref z, .ref nn])), (nn, .inr (1, [.ref gg, .int (nI L0.2)])), (gg, .inl (cG, 30, .inr (.inr (.inr (.inr (jx_o ad))))))] : va_W) ++ jx_r ad cI M) sz)) 0 0 (va_A (([(x, .inr (5, [.ref ca, .ref z, .ref nn])), (nn, .inr (1, [.ref gg, .int (nI L0.2)])), (gg, .inl (cG, 30, .inr (.inr (.inr (.inr (jx_o ad))))))] : va_W) ++ jx_r ad cI M) sz) := by
  refine Met.ofW (cc := c_J_lose) (maxL := 2) (ret := (some .boolean)) (by decide) rfl ?_
  intro pg0 en0 s m args below meth cd0 s₁ B hml hv
  obtain ⟨rfl, hsz, hP, hK, hD0⟩ := hv
  have hx := B.exec
  have hb := B.bytes
  have hr := B.returns
  have hts := atoms_spec (ws := w_J_lose) B.pre
  have ht : ∀ w ∈ jw_tbl, w.before _ s = true := fun w h => hts w (List.mem_cons_of_mem _ h)
  have hown : s.vm.findClass jn_J = some m.cls := findClass_of_methodNamed B.named
  have hlocks := B.notSynchronized
  subst hsz
  have hD := hD0.self (sz := s.heap.size)
  generalize hAe : va_A (([(x, .inr (5, [.ref ca, .ref z, .ref nn])), (nn, .inr (1, [.ref gg, .int (nI L0.2)])), (gg, .inl (cG, 30, .inr (.inr (.inr (.inr (jx_o ad))))))] : va_W) ++ jx_r ad cI M) s.heap.size = A at hD ⊢
  have hA : ∀ q : Nat, s.heap.size ≤ q → A q := fun q h => by rw [← hAe]; exact Or.inr h
  have hS : va_S A s.heap s.heap [] := va_S.rf
  have hP : va_P D jw_cl (([(x, .inr (5, [.ref ca, .ref z, .ref nn])), (nn, .inr (1, [.ref gg, .int (nI L0.2)])), (gg, .inl (cG, 30, .inr (.inr (.inr (.inr (jx_o ad))))))] : va_W) ++ jx_r ad cI M) s.heap := hP
  have hl := lv_entry ([.ref x, .int (nI k)]) (n := 2) (Nat.le_of_ble_eq_true rfl)
  rw [lg_entry_eq]
  generalize (lg_sl ([.ref x, .int (nI k)]) ++ List.replicate (2 - (lg_sl ([.ref x, .int (nI k)])).length) Slot.unset).toArray = ls at hl ⊢
  have hl : lv_has ls 2 [(0, .ref x), (1, .int (nI k))] := hl
  refine lv_aload_n hx hb d_J_lose_0 rfl (lv_at hl 0 rfl) ?_
  refine va_get (D := D) (ci := 5) (v := .ref nn) (C := jn_J) (T := jf_J) (N := 3) hx hb ht ji_J hown hK hP 0 rfl rfl 2 (by decide) (ht _ k_J_28) (fun _ h9 => h9) rfl d_J_lose_1 ?_
  refine lv_iload_n hx hb d_J_lose_4 rfl (lv_at hl 1 rfl) ?_
  refine jw_rV (As := [.int (nI k)]) (rest := []) hx hb hml hown ht (m_L_has_y l D nn gg _ k (by omega) (by omega)) (o_L_has) k_J_135 rfl rfl ⟨Nat.le_of_ble_eq_true rfl, Nat.le_of_ble_eq_true rfl⟩ (jw_subP hP [1] rfl) (hK.sub [] rfl) (va_recv (q0 := 1) (ci := 1) hK hP rfl rfl) rfl hl.1 rfl (Nat.le_of_ble_eq_true rfl) d_J_lose_5 ⟨Nat.zero_le _, Nat.zero_le _⟩ ?_
  refine lv_if_ne (tgt := 13) hx hb d_J_lose_8 (by decide) (fun h8 => ?_) (fun h8 => absurd (jw_eq0 (by omega) h8) (by omega))
  have h8 := jw_ne0 (by omega) h8
  refine lv_aload_n hx hb d_J_lose_13 rfl (lv_at hl 0 rfl) ?_
  refine va_get (D := D) (ci := 5) (v := .ref nn) (C := jn_J) (T := jf_J) (N := 3) hx hb ht ji_J hown hK hP 0 rfl rfl 2 (by decide) (ht _ k_J_28) (fun _ h9 => h9) rfl d_J_lose_14 ?_
  refine lv_iload_n hx hb d_J_lose_17 rfl (lv_at hl 1 rfl) ?_
  refine jw_jvP (rx := fun u1 : Nat → Nat → Int32 => [(nn, .inr (1, [.ref gg, .int (nI (L0.2 - 1))])), (gg, .inl (cG, 30, .inr (.inr (.inr (.inr (jx_o ad))))))]) (p1 := fun u1 : Nat → Nat → Int32 => jx_r ad cI u1) (X := [(x, .inr (5, [.ref ca, .ref z, .ref nn])), (nn, .inr (1, [.ref gg, .int (nI L0.2)])), (gg, .inl (cG, 30, .inr (.inr (.inr (.inr (jx_o ad))))))]) (cx := [(nn, .inr (1, [.ref gg, .int (nI L0.2)])), (gg, .inl (cG, 30, .inr (.inr (.inr (.inr (jx_o ad))))))]) (wr := [(x, .inr (5, [.ref ca, .ref z, .ref nn]))]) (pl := jx_r ad cI M) (jw_uV (As := [.int (nI k)]) (rest := []) hx hb hml hown ht (m_L_takeOut l D _ nn gg ad cI cG M L0 hM hL30 k hk) (o_L_takeOut) k_J_150 rfl rfl ⟨Nat.le_of_ble_eq_true rfl, Nat.le_of_ble_eq_true rfl⟩ (hP.part [1, 2] rfl) (hK.sub [0, 1] rfl) (hD.part [1, 2] (by decide) rfl) (va_recv (q0 := 1) (ci := 1) hK hP rfl rfl) rfl hl.1 rfl (Nat.le_of_ble_eq_true rfl) d_J_lose_18 ⟨Nat.zero_le _, Nat.zero_le _⟩) hP hD hS hA [1, 2] [0] rfl rfl (by decide) (by decide) (fun u1 H locs hu1 hP hD hS => ?_)
  have hP : va_P D jw_cl (([(x, .inr (5, [.ref ca, .ref z, .ref nn])), (nn, .inr (1, [.ref gg, .int (nI (L0.2 - 1))])), (gg, .inl (cG, 30, .inr (.inr (.inr (.inr (jx_o ad))))))] : va_W) ++ jx_r ad cI u1) H := hP
  have hD : va_D A (([(x, .inr (5, [.ref ca, .ref z, .ref nn])), (nn, .inr (1, [.ref gg, .int (nI (L0.2 - 1))])), (gg, .inl (cG, 30, .inr (.inr (.inr (.inr (jx_o ad))))))] : va_W) ++ jx_r ad cI u1) := hD
  refine lv_iconst (v := nI 1) hx hb d_J_lose_21 (by decide) ?_
  have hP := hP.part (cx := [(x, .inr (5, [.ref ca, .ref z, .ref nn])), (nn, .inr (1, [.ref gg, .int (nI (L0.2 - 1))])), (gg, .inl (cG, 30, .inr (.inr (.inr (.inr (jx_o ad))))))]) [0, 1, 2] rfl
  have hD := hD.part (cx := [(x, .inr (5, [.ref ca, .ref z, .ref nn])), (nn, .inr (1, [.ref gg, .int (nI (L0.2 - 1))])), (gg, .inl (cG, 30, .inr (.inr (.inr (.inr (jx_o ad))))))]) [0, 1, 2] (by decide) rfl
  exact W.zret (v := nI 1) hx hb hr (by decide) (fun t9 ht9 hW9 => ⟨⟨nI 1, u1, rfl, ⟨rfl, hu1⟩, by rw [ht9]; exact hP, hD⟩, hS.F ht9⟩) hS.2.2 d_J_lose_22

set_option maxHeartbeats 4000000 in
set_option maxRecDepth 100000 in
theorem m_J_repeat_y (l : Launch) (D : va_G) (sz : Nat) (x ca z : Nat) (nn gg : Nat) (ad : Nat → Nat) (cI cG : ClassId) (M : Nat → Nat → Int32) (L0 : jt_L) (hM : jt_rm M L0) (hL30 : L0.2 ≤ 30) (k : Nat) (hk : k < L0.2) (hL : L0.2 < 30) : Met l y_J_repeat w_J_repeat ({ frames := 3, cells := 0, slots := 0, locals := 61 }) (jw_C [.ref x, .int (nI k)] D jw_cl (([(x, .inr (5, [.ref ca, .ref z, .ref nn])), (nn, .inr (1, [.ref gg, .int (nI L0.2)])), (gg, .inl (cG, 30, .inr (.inr (.inr (.inr (jx_o ad))))))] : va_W) ++ jx_r ad cI M) [(cI, .int), (cG, .array .int)] sz) (va_Qi (fun (r : Int32) (u : Nat → Nat → Int32) => r = nI 1 ∧ jt_rm u (jt_sd L0 (L0.1 k))) (jw_B D jw_cl (va_A (([(x, .inr (5, [.ref ca, .ref z, .ref nn])), (nn, .inr (1, [.ref gg, .int (nI L0.2)])), (gg, .inl (cG, 30, .inr (.inr (.inr (.inr (jx_o ad))))))] : va_W) ++ jx_r ad cI M) sz) (fun u : Nat → Nat → Int32 => ([(x, .inr (5, [.ref ca, .ref z, .ref nn])), (nn, .inr (1, [.ref gg, .int (nI ((jt_sd L0 (L0.1 k)).2))])), (gg, .inl (cG, 30, .inr (.inr (.inr (.inr (jx_o ad))))))] : va_W) ++ jx_r ad cI u)) (va_A (([(x, .inr (5, [.ref ca, .ref z, .ref nn])), (nn, .inr (1, [.ref gg, .int (nI L0.2)])), (gg, .inl (cG, 30, .inr (.inr (.inr (.inr (jx_o ad))))))] : va_W) ++ jx_r ad cI M) sz)) 0 0 (va_A (([(x, .inr (5, [.ref ca, .ref z, .ref nn])), (nn, .inr (1, [.ref gg, .int (nI L0.2)])), (gg, .inl (cG, 30, .inr (.inr (.inr (.inr (jx_o ad))))))] : va_W) ++ jx_r ad cI M) sz) := by
  refine Met.ofW (cc := c_J_repeat) (maxL := 2) (ret := (some .boolean)) (by decide) rfl ?_
  intro pg0 en0 s m args below meth cd0 s₁ B hml hv
  obtain ⟨rfl, hsz, hP, hK, hD0⟩ := hv
  have hx := B.exec
  have hb := B.bytes
  have hr := B.returns
  have hts := atoms_spec (ws := w_J_repeat) B.pre
  have ht : ∀ w ∈ jw_tbl, w.before _ s = true := fun w h => hts w (List.mem_cons_of_mem _ h)
  have hown : s.vm.findClass jn_J = some m.cls := findClass_of_methodNamed B.named
  have hlocks := B.notSynchronized
  subst hsz
  have hD := hD0.self (sz := s.heap.size)
  generalize hAe : va_A (([(x, .inr (5, [.ref ca, .ref z, .ref nn])), (nn, .inr (1, [.ref gg, .int (nI L0.2)])), (gg, .inl (cG, 30, .inr (.inr (.inr (.inr (jx_o ad))))))] : va_W) ++ jx_r ad cI M) s.heap.size = A at hD ⊢
  have hA : ∀ q : Nat, s.heap.size ≤ q → A q := fun q h => by rw [← hAe]; exact Or.inr h
  have hS : va_S A s.heap s.heap [] := va_S.rf
  have hP : va_P D jw_cl (([(x, .inr (5, [.ref ca, .ref z, .ref nn])), (nn, .inr (1, [.ref gg, .int (nI L0.2)])), (gg, .inl (cG, 30, .inr (.inr (.inr (.inr (jx_o ad))))))] : va_W) ++ jx_r ad cI M) s.heap := hP
  have hl := lv_entry ([.ref x, .int (nI k)]) (n := 2) (Nat.le_of_ble_eq_true rfl)
  rw [lg_entry_eq]
  generalize (lg_sl ([.ref x, .int (nI k)]) ++ List.replicate (2 - (lg_sl ([.ref x, .int (nI k)])).length) Slot.unset).toArray = ls at hl ⊢
  have hl : lv_has ls 2 [(0, .ref x), (1, .int (nI k))] := hl
  refine lv_aload_n hx hb d_J_repeat_0 rfl (lv_at hl 0 rfl) ?_
  refine va_get (D := D) (ci := 5) (v := .ref nn) (C := jn_J) (T := jf_J) (N := 3) hx hb ht ji_J hown hK hP 0 rfl rfl 2 (by decide) (ht _ k_J_28) (fun _ h9 => h9) rfl d_J_repeat_1 ?_
  refine lv_iload_n hx hb d_J_repeat_4 rfl (lv_at hl 1 rfl) ?_
  refine jw_rV (As := [.int (nI k)]) (rest := []) hx hb hml hown ht (m_L_has_y l D nn gg _ k (by omega) (by omega)) (o_L_has) k_J_135 rfl rfl ⟨Nat.le_of_ble_eq_true rfl, Nat.le_of_ble_eq_true rfl⟩ (jw_subP hP [1] rfl) (hK.sub [] rfl) (va_recv (q0 := 1) (ci := 1) hK hP rfl rfl) rfl hl.1 rfl (Nat.le_of_ble_eq_true rfl) d_J_repeat_5 ⟨Nat.zero_le _, Nat.zero_le _⟩ ?_
  refine lv_if_eq (tgt := 21) hx hb d_J_repeat_8 (by decide) (fun h8 => absurd (jw_eq0 (by omega) h8) (by omega)) (fun h8 => ?_)
  have h8 := jw_ne0 (by omega) h8
  refine lv_aload_n hx hb d_J_repeat_11 rfl (lv_at hl 0 rfl) ?_
  refine va_get (D := D) (ci := 5) (v := .ref nn) (C := jn_J) (T := jf_J) (N := 3) hx hb ht ji_J hown hK hP 0 rfl rfl 2 (by decide) (ht _ k_J_28) (fun _ h9 => h9) rfl d_J_repeat_12 ?_
  refine jw_rV (As := []) (rest := []) hx hb hml hown ht (m_L_isFull l D nn gg _ (by omega)) (o_L_isFull) k_J_168 rfl rfl ⟨Nat.le_of_ble_eq_true rfl, Nat.le_of_ble_eq_true rfl⟩ (jw_subP hP [1] rfl) (hK.sub [] rfl) (va_recv (q0 := 1) (ci := 1) hK hP rfl rfl) rfl hl.1 rfl (Nat.le_of_ble_eq_true rfl) d_J_repeat_15 ⟨Nat.zero_le _, Nat.zero_le _⟩ ?_
  refine lv_if_eq (tgt := 23) hx hb d_J_repeat_18 (by decide) (fun h18 => ?_) (fun h18 => absurd (of_decide_eq_true (jw_b1 h18)) (by omega))
  refine lv_aload_n hx hb d_J_repeat_23 rfl (lv_at hl 0 rfl) ?_
  refine va_get (D := D) (ci := 5) (v := .ref nn) (C := jn_J) (T := jf_J) (N := 3) hx hb ht ji_J hown hK hP 0 rfl rfl 2 (by decide) (ht _ k_J_28) (fun _ h9 => h9) rfl d_J_repeat_24 ?_
  refine lv_iload_n hx hb d_J_repeat_27 rfl (lv_at hl 1 rfl) ?_
  refine jw_jvP (rx := fun u1 : Nat → Nat → Int32 => [(nn, .inr (1, [.ref gg, .int (nI ((jt_sd L0 (L0.1 k)).2))])), (gg, .inl (cG, 30, .inr (.inr (.inr (.inr (jx_o ad))))))]) (p1 := fun u1 : Nat → Nat → Int32 => jx_r ad cI u1) (X := [(x, .inr (5, [.ref ca, .ref z, .ref nn])), (nn, .inr (1, [.ref gg, .int (nI L0.2)])), (gg, .inl (cG, 30, .inr (.inr (.inr (.inr (jx_o ad))))))]) (cx := [(nn, .inr (1, [.ref gg, .int (nI L0.2)])), (gg, .inl (cG, 30, .inr (.inr (.inr (.inr (jx_o ad))))))]) (wr := [(x, .inr (5, [.ref ca, .ref z, .ref nn]))]) (pl := jx_r ad cI M) (jw_uV (As := [.int (nI k)]) (rest := []) hx hb hml hown ht (m_L_sendCopy l D _ nn gg ad cI cG M L0 hM hL30 k hk hL) (o_L_sendCopy) k_J_169 rfl rfl ⟨Nat.le_of_ble_eq_true rfl, Nat.le_of_ble_eq_true rfl⟩ (hP.part [1, 2] rfl) (hK.sub [0, 1] rfl) (hD.part [1, 2] (by decide) rfl) (va_recv (q0 := 1) (ci := 1) hK hP rfl rfl) rfl hl.1 rfl (Nat.le_of_ble_eq_true rfl) d_J_repeat_28 ⟨Nat.zero_le _, Nat.zero_le _⟩) hP hD hS hA [1, 2] [0] rfl rfl (by decide) (by decide) (fun u1 H locs hu1 hP hD hS => ?_)
  have hP : va_P D jw_cl (([(x, .inr (5, [.ref ca, .ref z, .ref nn])), (nn, .inr (1, [.ref gg, .int (nI ((jt_sd L0 (L0.1 k)).2))])), (gg, .inl (cG, 30, .inr (.inr (.inr (.inr (jx_o ad))))))] : va_W) ++ jx_r ad cI u1) H := hP
  have hD : va_D A (([(x, .inr (5, [.ref ca, .ref z, .ref nn])), (nn, .inr (1, [.ref gg, .int (nI ((jt_sd L0 (L0.1 k)).2))])), (gg, .inl (cG, 30, .inr (.inr (.inr (.inr (jx_o ad))))))] : va_W) ++ jx_r ad cI u1) := hD
  refine lv_iconst (v := nI 1) hx hb d_J_repeat_31 (by decide) ?_
  have hP := hP.part (cx := [(x, .inr (5, [.ref ca, .ref z, .ref nn])), (nn, .inr (1, [.ref gg, .int (nI ((jt_sd L0 (L0.1 k)).2))])), (gg, .inl (cG, 30, .inr (.inr (.inr (.inr (jx_o ad))))))]) [0, 1, 2] rfl
  have hD := hD.part (cx := [(x, .inr (5, [.ref ca, .ref z, .ref nn])), (nn, .inr (1, [.ref gg, .int (nI ((jt_sd L0 (L0.1 k)).2))])), (gg, .inl (cG, 30, .inr (.inr (.inr (.inr (jx_o ad))))))]) [0, 1, 2] (by decide) rfl
  exact W.zret (v := nI 1) hx hb hr (by decide) (fun t9 ht9 hW9 => ⟨⟨nI 1, u1, rfl, ⟨rfl, hu1⟩, by rw [ht9]; exact hP, hD⟩, hS.F ht9⟩) hS.2.2 d_J_repeat_32

set_option maxHeartbeats 4000000 in
set_option maxRecDepth 100000 in
theorem m_J_harm_y (l : Launch) (D : va_G) (sz : Nat) (x ca z : Nat) (nn gg : Nat) (ad : Nat → Nat) (cI cG : ClassId) (M : Nat → Nat → Int32) (L0 : jt_L) (hM : jt_rm M L0) (hL30 : L0.2 ≤ 30) (k : Nat) (hk : k < L0.2) (y : Int32) : Met l y_J_harm w_J_harm ({ frames := 1, cells := 0, slots := 0, locals := 22 }) (jw_C [.ref x, .int (nI k), .int y] D jw_cl (([(x, .inr (5, [.ref ca, .ref z, .ref nn])), (nn, .inr (1, [.ref gg, .int (nI L0.2)])), (gg, .inl (cG, 30, .inr (.inr (.inr (.inr (jx_o ad))))))] : va_W) ++ jx_r ad cI M) [(cI, .int), (cG, .array .int)] sz) (va_Qi (fun (r : Int32) (u : Nat → Nat → Int32) => r = nI 1 ∧ jt_rm u (jt_hm L0 k (y.toBitVec.toNat % 2 ^ 8))) (jw_B D jw_cl (va_A (([(x, .inr (5, [.ref ca, .ref z, .ref nn])), (nn, .inr (1, [.ref gg, .int (nI L0.2)])), (gg, .inl (cG, 30, .inr (.inr (.inr (.inr (jx_o ad))))))] : va_W) ++ jx_r ad cI M) sz) (fun u : Nat → Nat → Int32 => ([(x, .inr (5, [.ref ca, .ref z, .ref nn])), (nn, .inr (1, [.ref gg, .int (nI ((jt_hm L0 k (y.toBitVec.toNat % 2 ^ 8)).2))])), (gg, .inl (cG, 30, .inr (.inr (.inr (.inr (jx_o ad))))))] : va_W) ++ jx_r ad cI u)) (va_A (([(x, .inr (5, [.ref ca, .ref z, .ref nn])), (nn, .inr (1, [.ref gg, .int (nI L0.2)])), (gg, .inl (cG, 30, .inr (.inr (.inr (.inr (jx_o ad))))))] : va_W) ++ jx_r ad cI M) sz)) 0 0 (va_A (([(x, .inr (5, [.ref ca, .ref z, .ref nn])), (nn, .inr (1, [.ref gg, .int (nI L0.2)])), (gg, .inl (cG, 30, .inr (.inr (.inr (.inr (jx_o ad))))))] : va_W) ++ jx_r ad cI M) sz) := by
  refine Met.ofW (cc := c_J_harm) (maxL := 3) (ret := (some .boolean)) (by decide) rfl ?_
  intro pg0 en0 s m args below meth cd0 s₁ B hml hv
  obtain ⟨rfl, hsz, hP, hK, hD0⟩ := hv
  have hx := B.exec
  have hb := B.bytes
  have hr := B.returns
  have hts := atoms_spec (ws := w_J_harm) B.pre
  have ht : ∀ w ∈ jw_tbl, w.before _ s = true := fun w h => hts w (List.mem_cons_of_mem _ h)
  have hown : s.vm.findClass jn_J = some m.cls := findClass_of_methodNamed B.named
  have hlocks := B.notSynchronized
  subst hsz
  have hD := hD0.self (sz := s.heap.size)
  generalize hAe : va_A (([(x, .inr (5, [.ref ca, .ref z, .ref nn])), (nn, .inr (1, [.ref gg, .int (nI L0.2)])), (gg, .inl (cG, 30, .inr (.inr (.inr (.inr (jx_o ad))))))] : va_W) ++ jx_r ad cI M) s.heap.size = A at hD ⊢
  have hA : ∀ q : Nat, s.heap.size ≤ q → A q := fun q h => by rw [← hAe]; exact Or.inr h
  have hS : va_S A s.heap s.heap [] := va_S.rf
  have hP : va_P D jw_cl (([(x, .inr (5, [.ref ca, .ref z, .ref nn])), (nn, .inr (1, [.ref gg, .int (nI L0.2)])), (gg, .inl (cG, 30, .inr (.inr (.inr (.inr (jx_o ad))))))] : va_W) ++ jx_r ad cI M) s.heap := hP
  have hl := lv_entry ([.ref x, .int (nI k), .int y]) (n := 3) (Nat.le_of_ble_eq_true rfl)
  rw [lg_entry_eq]
  generalize (lg_sl ([.ref x, .int (nI k), .int y]) ++ List.replicate (3 - (lg_sl ([.ref x, .int (nI k), .int y])).length) Slot.unset).toArray = ls at hl ⊢
  have hl : lv_has ls 3 [(0, .ref x), (1, .int (nI k)), (2, .int y)] := hl
  refine lv_aload_n hx hb d_J_harm_0 rfl (lv_at hl 0 rfl) ?_
  refine va_get (D := D) (ci := 5) (v := .ref nn) (C := jn_J) (T := jf_J) (N := 3) hx hb ht ji_J hown hK hP 0 rfl rfl 2 (by decide) (ht _ k_J_28) (fun _ h9 => h9) rfl d_J_harm_1 ?_
  refine lv_iload_n hx hb d_J_harm_4 rfl (lv_at hl 1 rfl) ?_
  refine jw_rV (As := [.int (nI k)]) (rest := []) hx hb hml hown ht (m_L_has_y l D nn gg _ k (by omega) (by omega)) (o_L_has) k_J_135 rfl rfl ⟨Nat.le_of_ble_eq_true rfl, Nat.le_of_ble_eq_true rfl⟩ (jw_subP hP [1] rfl) (hK.sub [] rfl) (va_recv (q0 := 1) (ci := 1) hK hP rfl rfl) rfl hl.1 rfl (Nat.le_of_ble_eq_true rfl) d_J_harm_5 ⟨Nat.zero_le _, Nat.zero_le _⟩ ?_
  refine lv_if_ne (tgt := 13) hx hb d_J_harm_8 (by decide) (fun h8 => ?_) (fun h8 => absurd (jw_eq0 (by omega) h8) (by omega))
  have h8 := jw_ne0 (by omega) h8
  refine lv_aload_n hx hb d_J_harm_13 rfl (lv_at hl 0 rfl) ?_
  refine va_get (D := D) (ci := 5) (v := .ref nn) (C := jn_J) (T := jf_J) (N := 3) hx hb ht ji_J hown hK hP 0 rfl rfl 2 (by decide) (ht _ k_J_28) (fun _ h9 => h9) rfl d_J_harm_14 ?_
  refine lv_iload_n hx hb d_J_harm_17 rfl (lv_at hl 1 rfl) ?_
  refine lv_iload_n hx hb d_J_harm_18 rfl (lv_at hl 2 rfl) ?_
  refine jw_jvP (rx := fun u1 : Nat → Nat → Int32 => [(nn, .inr (1, [.ref gg, .int (nI L0.2)])), (gg, .inl (cG, 30, .inr (.inr (.inr (.inr (jx_o ad))))))]) (p1 := fun u1 : Nat → Nat → Int32 => jx_r ad cI u1) (X := [(x, .inr (5, [.ref ca, .ref z, .ref nn])), (nn, .inr (1, [.ref gg, .int (nI L0.2)])), (gg, .inl (cG, 30, .inr (.inr (.inr (.inr (jx_o ad))))))]) (cx := [(nn, .inr (1, [.ref gg, .int (nI L0.2)])), (gg, .inl (cG, 30, .inr (.inr (.inr (.inr (jx_o ad))))))]) (wr := [(x, .inr (5, [.ref ca, .ref z, .ref nn]))]) (pl := jx_r ad cI M) (jw_uV (As := [.int (nI k), .int y]) (rest := []) hx hb hml hown ht (m_L_changeMark l D _ nn gg ad cI cG M L0 hM hL30 k y hk) (o_L_changeMark) k_J_172 rfl rfl ⟨Nat.le_of_ble_eq_true rfl, Nat.le_of_ble_eq_true rfl⟩ (hP.part [1, 2] rfl) (hK.sub [0, 1] rfl) (hD.part [1, 2] (by decide) rfl) (va_recv (q0 := 1) (ci := 1) hK hP rfl rfl) rfl hl.1 rfl (Nat.le_of_ble_eq_true rfl) d_J_harm_19 ⟨Nat.zero_le _, Nat.zero_le _⟩) hP hD hS hA [1, 2] [0] rfl rfl (by decide) (by decide) (fun u1 H locs hu1 hP hD hS => ?_)
  have hP : va_P D jw_cl (([(x, .inr (5, [.ref ca, .ref z, .ref nn])), (nn, .inr (1, [.ref gg, .int (nI L0.2)])), (gg, .inl (cG, 30, .inr (.inr (.inr (.inr (jx_o ad))))))] : va_W) ++ jx_r ad cI u1) H := hP
  have hD : va_D A (([(x, .inr (5, [.ref ca, .ref z, .ref nn])), (nn, .inr (1, [.ref gg, .int (nI L0.2)])), (gg, .inl (cG, 30, .inr (.inr (.inr (.inr (jx_o ad))))))] : va_W) ++ jx_r ad cI u1) := hD
  refine lv_iconst (v := nI 1) hx hb d_J_harm_22 (by decide) ?_
  have hP := hP.part (cx := [(x, .inr (5, [.ref ca, .ref z, .ref nn])), (nn, .inr (1, [.ref gg, .int (nI L0.2)])), (gg, .inl (cG, 30, .inr (.inr (.inr (.inr (jx_o ad))))))]) [0, 1, 2] rfl
  have hD := hD.part (cx := [(x, .inr (5, [.ref ca, .ref z, .ref nn])), (nn, .inr (1, [.ref gg, .int (nI L0.2)])), (gg, .inl (cG, 30, .inr (.inr (.inr (.inr (jx_o ad))))))]) [0, 1, 2] (by decide) rfl
  exact W.zret (v := nI 1) hx hb hr (by decide) (fun t9 ht9 hW9 => ⟨⟨nI 1, u1, rfl, ⟨rfl, hu1⟩, by rw [ht9]; exact hP, hD⟩, hS.F ht9⟩) hS.2.2 d_J_harm_23

set_option maxHeartbeats 4000000 in
set_option maxRecDepth 100000 in
theorem m_J_trip_n (l : Launch) (D : va_G) (x : Nat) (v : Int32) (hn : ¬ (¬ v < 0 ∧ v ≤ nI 2)) : Met l y_J_trip w_J_trip ({ frames := 0, cells := 0, slots := 0, locals := 0 }) (jw_P [.ref x, .int v] D jw_cl [] []) (k2_QcV (.int (nI 0))) 0 0 (fun _ => False) := by
  refine Met.ofW (cc := c_J_trip) (maxL := 2) (ret := (some .boolean)) (by decide) rfl ?_
  intro pg0 en0 s m args below meth cd0 s₁ B hml hv
  obtain ⟨rfl, hP, hK⟩ := hv
  have hx := B.exec
  have hb := B.bytes
  have hr := B.returns
  have hts := atoms_spec (ws := w_J_trip) B.pre
  have ht : ∀ w ∈ jw_tbl, w.before _ s = true := fun w h => hts w (List.mem_cons_of_mem _ h)
  have hown : s.vm.findClass jn_J = some m.cls := findClass_of_methodNamed B.named
  have hlocks := B.notSynchronized
  have hl := lv_entry ([.ref x, .int v]) (n := 2) (Nat.le_of_ble_eq_true rfl)
  rw [lg_entry_eq]
  generalize (lg_sl ([.ref x, .int v]) ++ List.replicate (2 - (lg_sl ([.ref x, .int v])).length) Slot.unset).toArray = ls at hl ⊢
  have hl : lv_has ls 2 [(0, .ref x), (1, .int v)] := hl
  refine lv_iload_n hx hb d_J_trip_0 rfl (lv_at hl 1 rfl) ?_
  refine lv_if_lt (tgt := 9) hx hb d_J_trip_1 (by decide) (fun h1 => ?_) (fun h1 => ?_)
  · skip
    refine lv_iconst (v := nI 0) hx hb d_J_trip_9 (by decide) ?_
    exact W.zret (v := nI 0) hx hb hr (by decide) (fun t9 ht9 _ => ⟨rfl, ht9⟩) (fun q h => by cases h) d_J_trip_10
  · skip
    refine lv_iload_n hx hb d_J_trip_4 rfl (lv_at hl 1 rfl) ?_
    refine lv_iconst (v := nI 2) hx hb d_J_trip_5 (by decide) ?_
    refine lv_icmp_le (tgt := 11) hx hb d_J_trip_6 (by decide) (fun h6 => absurd ⟨h1, h6⟩ hn) (fun h6 => ?_)
    refine lv_iconst (v := nI 0) hx hb d_J_trip_9 (by decide) ?_
    exact W.zret (v := nI 0) hx hb hr (by decide) (fun t9 ht9 _ => ⟨rfl, ht9⟩) (fun q h => by cases h) d_J_trip_10

set_option maxHeartbeats 4000000 in
set_option maxRecDepth 100000 in
theorem m_J_trip_y (l : Launch) (D : va_G) (sz : Nat) (x ca z nn ao an th : Nat) (v3 v4 v5 : Int32) (k : Nat) (hk : k < 3) : Met l y_J_trip w_J_trip ({ frames := 1, cells := 0, slots := 0, locals := 21 }) (jw_C [.ref x, .int (nI k)] D jw_cl [(x, .inr (5, [.ref ca, .ref z, .ref nn])), (z, .inr (3, [.ref th, .ref ao, .ref an, .int v3, .int v4, .int v5]))] [] sz) (va_Qi (fun (r : Int32) (_ : Unit) => r = nI 1 ∧ True) (jw_B D jw_cl (va_A [(x, .inr (5, [.ref ca, .ref z, .ref nn])), (z, .inr (3, [.ref th, .ref ao, .ref an, .int v3, .int v4, .int v5]))] sz) (fun _ : Unit => [(x, .inr (5, [.ref ca, .ref z, .ref nn])), (z, .inr (3, [.ref th, .ref ao, .ref an, .int v3, .int v4, .int (nI k)]))])) (va_A [(x, .inr (5, [.ref ca, .ref z, .ref nn])), (z, .inr (3, [.ref th, .ref ao, .ref an, .int v3, .int v4, .int v5]))] sz)) 0 0 (va_A [(x, .inr (5, [.ref ca, .ref z, .ref nn])), (z, .inr (3, [.ref th, .ref ao, .ref an, .int v3, .int v4, .int v5]))] sz) := by
  refine Met.ofW (cc := c_J_trip) (maxL := 2) (ret := (some .boolean)) (by decide) rfl ?_
  intro pg0 en0 s m args below meth cd0 s₁ B hml hv
  obtain ⟨rfl, hsz, hP, hK, hD0⟩ := hv
  have hx := B.exec
  have hb := B.bytes
  have hr := B.returns
  have hts := atoms_spec (ws := w_J_trip) B.pre
  have ht : ∀ w ∈ jw_tbl, w.before _ s = true := fun w h => hts w (List.mem_cons_of_mem _ h)
  have hown : s.vm.findClass jn_J = some m.cls := findClass_of_methodNamed B.named
  have hlocks := B.notSynchronized
  subst hsz
  have hD := hD0.self (sz := s.heap.size)
  generalize hAe : va_A [(x, .inr (5, [.ref ca, .ref z, .ref nn])), (z, .inr (3, [.ref th, .ref ao, .ref an, .int v3, .int v4, .int v5]))] s.heap.size = A at hD ⊢
  have hA : ∀ q : Nat, s.heap.size ≤ q → A q := fun q h => by rw [← hAe]; exact Or.inr h
  have hS : va_S A s.heap s.heap [] := va_S.rf
  have hP : va_P D jw_cl [(x, .inr (5, [.ref ca, .ref z, .ref nn])), (z, .inr (3, [.ref th, .ref ao, .ref an, .int v3, .int v4, .int v5]))] s.heap := hP
  have hl := lv_entry ([.ref x, .int (nI k)]) (n := 2) (Nat.le_of_ble_eq_true rfl)
  rw [lg_entry_eq]
  generalize (lg_sl ([.ref x, .int (nI k)]) ++ List.replicate (2 - (lg_sl ([.ref x, .int (nI k)])).length) Slot.unset).toArray = ls at hl ⊢
  have hl : lv_has ls 2 [(0, .ref x), (1, .int (nI k))] := hl
  refine lv_iload_n hx hb d_J_trip_0 rfl (lv_at hl 1 rfl) ?_
  refine lv_if_lt (tgt := 9) hx hb d_J_trip_1 (by decide) (fun h1 => absurd (jw_lt0 (by omega) h1) (by omega)) (fun h1 => ?_)
  have h1 := jw_nlt0 (by omega) h1
  refine lv_iload_n hx hb d_J_trip_4 rfl (lv_at hl 1 rfl) ?_
  refine lv_iconst (v := nI 2) hx hb d_J_trip_5 (by decide) ?_
  refine lv_icmp_le (tgt := 11) hx hb d_J_trip_6 (by decide) (fun h6 => ?_) (fun h6 => absurd (jw_nle (by omega) (by omega) h6) (by omega))
  have h6 := jw_le (by omega) (by omega) h6
  refine lv_aload_n hx hb d_J_trip_11 rfl (lv_at hl 0 rfl) ?_
  refine va_get (D := D) (ci := 5) (v := .ref z) (C := jn_J) (T := jf_J) (N := 3) hx hb ht ji_J hown hK hP 0 rfl rfl 1 (by decide) (ht _ k_J_21) (fun _ h9 => h9) rfl d_J_trip_12 ?_
  refine lv_iload_n hx hb d_J_trip_15 rfl (lv_at hl 1 rfl) ?_
  refine jw_jv (ws := [(x, .inr (5, [.ref ca, .ref z, .ref nn])), (z, .inr (3, [.ref th, .ref ao, .ref an, .int v3, .int v4, .int v5]))]) (wc := [(z, .inr (3, [.ref th, .ref ao, .ref an, .int v3, .int v4, .int v5]))]) (wr := [(x, .inr (5, [.ref ca, .ref z, .ref nn]))]) (jw_uV (As := [.int (nI k)]) (rest := []) hx hb hml hown ht (m_S_setTrip l D _ z ao an th _ _ _ k) (o_S_setTrip) k_J_186 rfl rfl ⟨Nat.le_of_ble_eq_true rfl, Nat.le_of_ble_eq_true rfl⟩ (hP.sub [1] rfl) (hK.sub [] rfl) (hD.sub [1] (by decide) rfl) (va_recv (q0 := 1) (ci := 3) hK hP rfl rfl) rfl hl.1 rfl (Nat.le_of_ble_eq_true rfl) d_J_trip_16 ⟨Nat.zero_le _, Nat.zero_le _⟩) hP hD hS hA [1] [0] rfl rfl (by decide) (by decide) (fun u1 H locs hu1 hP hD hS => ?_)
  have hP : va_P D jw_cl [(x, .inr (5, [.ref ca, .ref z, .ref nn])), (z, .inr (3, [.ref th, .ref ao, .ref an, .int v3, .int v4, .int (nI k)]))] H := hP
  have hD : va_D A [(x, .inr (5, [.ref ca, .ref z, .ref nn])), (z, .inr (3, [.ref th, .ref ao, .ref an, .int v3, .int v4, .int (nI k)]))] := hD
  refine lv_iconst (v := nI 1) hx hb d_J_trip_19 (by decide) ?_
  have hP := hP.sub (ws' := [(x, .inr (5, [.ref ca, .ref z, .ref nn])), (z, .inr (3, [.ref th, .ref ao, .ref an, .int v3, .int v4, .int (nI k)]))]) [0, 1] rfl
  have hD := hD.sub (ws' := [(x, .inr (5, [.ref ca, .ref z, .ref nn])), (z, .inr (3, [.ref th, .ref ao, .ref an, .int v3, .int v4, .int (nI k)]))]) [0, 1] (by decide) rfl
  exact W.zret (v := nI 1) hx hb hr (by decide) (fun t9 ht9 hW9 => ⟨⟨nI 1, (), rfl, ⟨rfl, trivial⟩, by rw [ht9]; exact hP, hD⟩, hS.F ht9⟩) hS.2.2 d_J_trip_20

set_option maxHeartbeats 4000000 in
set_option maxRecDepth 100000 in
theorem m_J_crash_n (l : Launch) (D : va_G) (x ca z nn ao an th : Nat) (v3 v5 : Int32) (up : Nat) (hup : up = 0) : Met l y_J_crash w_J_crash ({ frames := 1, cells := 0, slots := 0, locals := 20 }) (jw_P [.ref x] D jw_cl [(x, .inr (5, [.ref ca, .ref z, .ref nn])), (z, .inr (3, [.ref th, .ref ao, .ref an, .int v3, .int (nI up), .int v5]))] []) (k2_QcV (.int (nI 0))) 0 0 (fun _ => False) := by
  refine Met.ofW (cc := c_J_crash) (maxL := 1) (ret := (some .boolean)) (by decide) rfl ?_
  intro pg0 en0 s m args below meth cd0 s₁ B hml hv
  obtain ⟨rfl, hP, hK⟩ := hv
  have hx := B.exec
  have hb := B.bytes
  have hr := B.returns
  have hts := atoms_spec (ws := w_J_crash) B.pre
  have ht : ∀ w ∈ jw_tbl, w.before _ s = true := fun w h => hts w (List.mem_cons_of_mem _ h)
  have hown : s.vm.findClass jn_J = some m.cls := findClass_of_methodNamed B.named
  have hlocks := B.notSynchronized
  have hl := lv_entry ([.ref x]) (n := 1) (Nat.le_of_ble_eq_true rfl)
  rw [lg_entry_eq]
  generalize (lg_sl ([.ref x]) ++ List.replicate (1 - (lg_sl ([.ref x])).length) Slot.unset).toArray = ls at hl ⊢
  have hl : lv_has ls 1 [(0, .ref x)] := hl
  refine lv_aload_n hx hb d_J_crash_0 rfl (lv_at hl 0 rfl) ?_
  refine va_get (D := D) (ci := 5) (v := .ref z) (C := jn_J) (T := jf_J) (N := 3) hx hb ht ji_J hown hK hP 0 rfl rfl 1 (by decide) (ht _ k_J_21) (fun _ h9 => h9) rfl d_J_crash_1 ?_
  refine jw_rV (As := []) (rest := []) hx hb hml hown ht (m_S_isUp l D z ao an th _ _ _ (by omega)) (o_S_isUp) k_J_157 rfl rfl ⟨Nat.le_of_ble_eq_true rfl, Nat.le_of_ble_eq_true rfl⟩ (hP.sub [1] rfl) (hK.sub [] rfl) (va_recv (q0 := 1) (ci := 3) hK hP rfl rfl) rfl hl.1 rfl (Nat.le_of_ble_eq_true rfl) d_J_crash_4 ⟨Nat.zero_le _, Nat.zero_le _⟩ ?_
  refine lv_if_ne (tgt := 12) hx hb d_J_crash_7 (by decide) (fun h7 => absurd (jw_ne0 (by omega) h7) (by omega)) (fun h7 => ?_)
  have h7 := jw_eq0 (by omega) h7
  refine lv_iconst (v := nI 0) hx hb d_J_crash_10 (by decide) ?_
  exact W.zret (v := nI 0) hx hb hr (by decide) (fun t9 ht9 _ => ⟨rfl, ht9⟩) (fun q h => by cases h) d_J_crash_11

set_option maxHeartbeats 4000000 in
set_option maxRecDepth 100000 in
theorem m_J_crash_y (l : Launch) (D : va_G) (sz : Nat) (x ca z nn ao an th : Nat) (v3 v5 : Int32) (up : Nat) (hup : up = 1) : Met l y_J_crash w_J_crash ({ frames := 1, cells := 0, slots := 0, locals := 20 }) (jw_C [.ref x] D jw_cl [(x, .inr (5, [.ref ca, .ref z, .ref nn])), (z, .inr (3, [.ref th, .ref ao, .ref an, .int v3, .int (nI up), .int v5]))] [] sz) (va_Qi (fun (r : Int32) (_ : Unit) => r = nI 1 ∧ True) (jw_B D jw_cl (va_A [(x, .inr (5, [.ref ca, .ref z, .ref nn])), (z, .inr (3, [.ref th, .ref ao, .ref an, .int v3, .int (nI up), .int v5]))] sz) (fun _ : Unit => [(x, .inr (5, [.ref ca, .ref z, .ref nn])), (z, .inr (3, [.ref th, .ref ao, .ref an, .int v3, .int (nI 0), .int v5]))])) (va_A [(x, .inr (5, [.ref ca, .ref z, .ref nn])), (z, .inr (3, [.ref th, .ref ao, .ref an, .int v3, .int (nI up), .int v5]))] sz)) 0 0 (va_A [(x, .inr (5, [.ref ca, .ref z, .ref nn])), (z, .inr (3, [.ref th, .ref ao, .ref an, .int v3, .int (nI up), .int v5]))] sz) := by
  refine Met.ofW (cc := c_J_crash) (maxL := 1) (ret := (some .boolean)) (by decide) rfl ?_
  intro pg0 en0 s m args below meth cd0 s₁ B hml hv
  obtain ⟨rfl, hsz, hP, hK, hD0⟩ := hv
  have hx := B.exec
  have hb := B.bytes
  have hr := B.returns
  have hts := atoms_spec (ws := w_J_crash) B.pre
  have ht : ∀ w ∈ jw_tbl, w.before _ s = true := fun w h => hts w (List.mem_cons_of_mem _ h)
  have hown : s.vm.findClass jn_J = some m.cls := findClass_of_methodNamed B.named
  have hlocks := B.notSynchronized
  subst hsz
  have hD := hD0.self (sz := s.heap.size)
  generalize hAe : va_A [(x, .inr (5, [.ref ca, .ref z, .ref nn])), (z, .inr (3, [.ref th, .ref ao, .ref an, .int v3, .int (nI up), .int v5]))] s.heap.size = A at hD ⊢
  have hA : ∀ q : Nat, s.heap.size ≤ q → A q := fun q h => by rw [← hAe]; exact Or.inr h
  have hS : va_S A s.heap s.heap [] := va_S.rf
  have hP : va_P D jw_cl [(x, .inr (5, [.ref ca, .ref z, .ref nn])), (z, .inr (3, [.ref th, .ref ao, .ref an, .int v3, .int (nI up), .int v5]))] s.heap := hP
  have hl := lv_entry ([.ref x]) (n := 1) (Nat.le_of_ble_eq_true rfl)
  rw [lg_entry_eq]
  generalize (lg_sl ([.ref x]) ++ List.replicate (1 - (lg_sl ([.ref x])).length) Slot.unset).toArray = ls at hl ⊢
  have hl : lv_has ls 1 [(0, .ref x)] := hl
  refine lv_aload_n hx hb d_J_crash_0 rfl (lv_at hl 0 rfl) ?_
  refine va_get (D := D) (ci := 5) (v := .ref z) (C := jn_J) (T := jf_J) (N := 3) hx hb ht ji_J hown hK hP 0 rfl rfl 1 (by decide) (ht _ k_J_21) (fun _ h9 => h9) rfl d_J_crash_1 ?_
  refine jw_rV (As := []) (rest := []) hx hb hml hown ht (m_S_isUp l D z ao an th _ _ _ (by omega)) (o_S_isUp) k_J_157 rfl rfl ⟨Nat.le_of_ble_eq_true rfl, Nat.le_of_ble_eq_true rfl⟩ (hP.sub [1] rfl) (hK.sub [] rfl) (va_recv (q0 := 1) (ci := 3) hK hP rfl rfl) rfl hl.1 rfl (Nat.le_of_ble_eq_true rfl) d_J_crash_4 ⟨Nat.zero_le _, Nat.zero_le _⟩ ?_
  refine lv_if_ne (tgt := 12) hx hb d_J_crash_7 (by decide) (fun h7 => ?_) (fun h7 => absurd (jw_eq0 (by omega) h7) (by omega))
  have h7 := jw_ne0 (by omega) h7
  refine lv_aload_n hx hb d_J_crash_12 rfl (lv_at hl 0 rfl) ?_
  refine va_get (D := D) (ci := 5) (v := .ref z) (C := jn_J) (T := jf_J) (N := 3) hx hb ht ji_J hown hK hP 0 rfl rfl 1 (by decide) (ht _ k_J_21) (fun _ h9 => h9) rfl d_J_crash_13 ?_
  refine jw_jv (ws := [(x, .inr (5, [.ref ca, .ref z, .ref nn])), (z, .inr (3, [.ref th, .ref ao, .ref an, .int v3, .int (nI up), .int v5]))]) (wc := [(z, .inr (3, [.ref th, .ref ao, .ref an, .int v3, .int (nI up), .int v5]))]) (wr := [(x, .inr (5, [.ref ca, .ref z, .ref nn]))]) (jw_uV (As := []) (rest := []) hx hb hml hown ht (m_S_goDown l D _ z ao an th _ _ _) (o_S_goDown) k_J_189 rfl rfl ⟨Nat.le_of_ble_eq_true rfl, Nat.le_of_ble_eq_true rfl⟩ (hP.sub [1] rfl) (hK.sub [] rfl) (hD.sub [1] (by decide) rfl) (va_recv (q0 := 1) (ci := 3) hK hP rfl rfl) rfl hl.1 rfl (Nat.le_of_ble_eq_true rfl) d_J_crash_16 ⟨Nat.zero_le _, Nat.zero_le _⟩) hP hD hS hA [1] [0] rfl rfl (by decide) (by decide) (fun u1 H locs hu1 hP hD hS => ?_)
  have hP : va_P D jw_cl [(x, .inr (5, [.ref ca, .ref z, .ref nn])), (z, .inr (3, [.ref th, .ref ao, .ref an, .int v3, .int (nI 0), .int v5]))] H := hP
  have hD : va_D A [(x, .inr (5, [.ref ca, .ref z, .ref nn])), (z, .inr (3, [.ref th, .ref ao, .ref an, .int v3, .int (nI 0), .int v5]))] := hD
  refine lv_iconst (v := nI 1) hx hb d_J_crash_19 (by decide) ?_
  have hP := hP.sub (ws' := [(x, .inr (5, [.ref ca, .ref z, .ref nn])), (z, .inr (3, [.ref th, .ref ao, .ref an, .int v3, .int (nI 0), .int v5]))]) [0, 1] rfl
  have hD := hD.sub (ws' := [(x, .inr (5, [.ref ca, .ref z, .ref nn])), (z, .inr (3, [.ref th, .ref ao, .ref an, .int v3, .int (nI 0), .int v5]))]) [0, 1] (by decide) rfl
  exact W.zret (v := nI 1) hx hb hr (by decide) (fun t9 ht9 hW9 => ⟨⟨nI 1, (), rfl, ⟨rfl, trivial⟩, by rw [ht9]; exact hP, hD⟩, hS.F ht9⟩) hS.2.2 d_J_crash_20

set_option maxHeartbeats 4000000 in
set_option maxRecDepth 100000 in
theorem m_J_restart_n (l : Launch) (D : va_G) (x ca z nn ao an th : Nat) (v3 v5 : Int32) (up : Nat) (hup : up = 1) : Met l y_J_restart w_J_restart ({ frames := 1, cells := 0, slots := 0, locals := 20 }) (jw_P [.ref x] D jw_cl [(x, .inr (5, [.ref ca, .ref z, .ref nn])), (z, .inr (3, [.ref th, .ref ao, .ref an, .int v3, .int (nI up), .int v5]))] []) (k2_QcV (.int (nI 0))) 0 0 (fun _ => False) := by
  refine Met.ofW (cc := c_J_restart) (maxL := 1) (ret := (some .boolean)) (by decide) rfl ?_
  intro pg0 en0 s m args below meth cd0 s₁ B hml hv
  obtain ⟨rfl, hP, hK⟩ := hv
  have hx := B.exec
  have hb := B.bytes
  have hr := B.returns
  have hts := atoms_spec (ws := w_J_restart) B.pre
  have ht : ∀ w ∈ jw_tbl, w.before _ s = true := fun w h => hts w (List.mem_cons_of_mem _ h)
  have hown : s.vm.findClass jn_J = some m.cls := findClass_of_methodNamed B.named
  have hlocks := B.notSynchronized
  have hl := lv_entry ([.ref x]) (n := 1) (Nat.le_of_ble_eq_true rfl)
  rw [lg_entry_eq]
  generalize (lg_sl ([.ref x]) ++ List.replicate (1 - (lg_sl ([.ref x])).length) Slot.unset).toArray = ls at hl ⊢
  have hl : lv_has ls 1 [(0, .ref x)] := hl
  refine lv_aload_n hx hb d_J_restart_0 rfl (lv_at hl 0 rfl) ?_
  refine va_get (D := D) (ci := 5) (v := .ref z) (C := jn_J) (T := jf_J) (N := 3) hx hb ht ji_J hown hK hP 0 rfl rfl 1 (by decide) (ht _ k_J_21) (fun _ h9 => h9) rfl d_J_restart_1 ?_
  refine jw_rV (As := []) (rest := []) hx hb hml hown ht (m_S_isUp l D z ao an th _ _ _ (by omega)) (o_S_isUp) k_J_157 rfl rfl ⟨Nat.le_of_ble_eq_true rfl, Nat.le_of_ble_eq_true rfl⟩ (hP.sub [1] rfl) (hK.sub [] rfl) (va_recv (q0 := 1) (ci := 3) hK hP rfl rfl) rfl hl.1 rfl (Nat.le_of_ble_eq_true rfl) d_J_restart_4 ⟨Nat.zero_le _, Nat.zero_le _⟩ ?_
  refine lv_if_eq (tgt := 12) hx hb d_J_restart_7 (by decide) (fun h7 => absurd (jw_eq0 (by omega) h7) (by omega)) (fun h7 => ?_)
  have h7 := jw_ne0 (by omega) h7
  refine lv_iconst (v := nI 0) hx hb d_J_restart_10 (by decide) ?_
  exact W.zret (v := nI 0) hx hb hr (by decide) (fun t9 ht9 _ => ⟨rfl, ht9⟩) (fun q h => by cases h) d_J_restart_11

set_option maxHeartbeats 4000000 in
set_option maxRecDepth 100000 in
theorem m_J_restart_y (l : Launch) (D : va_G) (sz : Nat) (x ca z nn : Nat) (cI : ClassId) (S : jt_S) (hI : jt_inv S) (ao an th ta : Nat) (Y : jt_Y) (hY : jt_rv Y S) (hup : js_up S = 0) : Met l y_J_restart w_J_restart ({ frames := 4, cells := 0, slots := 0, locals := 86 }) (jw_C [.ref x] D jw_cl [(x, .inr (5, [.ref ca, .ref z, .ref nn])), (z, .inr (3, [.ref th, .ref ao, .ref an, .int (nI (js_N S)), .int (nI (js_up S)), .int (nI (js_tr S))])), (ao, .inl (cI, 60, .inl Y.1)), (an, .inl (cI, 60, .inl Y.2.1)), (th, .inr (4, [.ref ta, .int (nI Y.2.2.2.2)])), (ta, .inl (cI, 68, .inl Y.2.2.1))] [(cI, .int)] sz) (va_Qi (fun (r : Int32) (u : jt_Y) => r = nI 1 ∧ jt_rv u (jt_s_up S 1 0)) (jw_B D jw_cl (va_A [(x, .inr (5, [.ref ca, .ref z, .ref nn])), (z, .inr (3, [.ref th, .ref ao, .ref an, .int (nI (js_N S)), .int (nI (js_up S)), .int (nI (js_tr S))])), (ao, .inl (cI, 60, .inl Y.1)), (an, .inl (cI, 60, .inl Y.2.1)), (th, .inr (4, [.ref ta, .int (nI Y.2.2.2.2)])), (ta, .inl (cI, 68, .inl Y.2.2.1))] sz) (fun u : jt_Y => [(x, .inr (5, [.ref ca, .ref z, .ref nn])), (z, .inr (3, [.ref th, .ref ao, .ref an, .int (nI (js_N (jt_s_up S 1 0))), .int (nI (js_up (jt_s_up S 1 0))), .int (nI (js_tr (jt_s_up S 1 0)))])), (ao, .inl (cI, 60, .inl u.1)), (an, .inl (cI, 60, .inl u.2.1)), (th, .inr (4, [.ref ta, .int (nI u.2.2.2.2)])), (ta, .inl (cI, 68, .inl u.2.2.1))])) (va_A [(x, .inr (5, [.ref ca, .ref z, .ref nn])), (z, .inr (3, [.ref th, .ref ao, .ref an, .int (nI (js_N S)), .int (nI (js_up S)), .int (nI (js_tr S))])), (ao, .inl (cI, 60, .inl Y.1)), (an, .inl (cI, 60, .inl Y.2.1)), (th, .inr (4, [.ref ta, .int (nI Y.2.2.2.2)])), (ta, .inl (cI, 68, .inl Y.2.2.1))] sz)) 0 0 (va_A [(x, .inr (5, [.ref ca, .ref z, .ref nn])), (z, .inr (3, [.ref th, .ref ao, .ref an, .int (nI (js_N S)), .int (nI (js_up S)), .int (nI (js_tr S))])), (ao, .inl (cI, 60, .inl Y.1)), (an, .inl (cI, 60, .inl Y.2.1)), (th, .inr (4, [.ref ta, .int (nI Y.2.2.2.2)])), (ta, .inl (cI, 68, .inl Y.2.2.1))] sz) := by
  refine Met.ofW (cc := c_J_restart) (maxL := 1) (ret := (some .boolean)) (by decide) rfl ?_
  intro pg0 en0 s m args below meth cd0 s₁ B hml hv
  obtain ⟨rfl, hsz, hP, hK, hD0⟩ := hv
  have hx := B.exec
  have hb := B.bytes
  have hr := B.returns
  have hts := atoms_spec (ws := w_J_restart) B.pre
  have ht : ∀ w ∈ jw_tbl, w.before _ s = true := fun w h => hts w (List.mem_cons_of_mem _ h)
  have hown : s.vm.findClass jn_J = some m.cls := findClass_of_methodNamed B.named
  have hlocks := B.notSynchronized
  subst hsz
  have hD := hD0.self (sz := s.heap.size)
  generalize hAe : va_A [(x, .inr (5, [.ref ca, .ref z, .ref nn])), (z, .inr (3, [.ref th, .ref ao, .ref an, .int (nI (js_N S)), .int (nI (js_up S)), .int (nI (js_tr S))])), (ao, .inl (cI, 60, .inl Y.1)), (an, .inl (cI, 60, .inl Y.2.1)), (th, .inr (4, [.ref ta, .int (nI Y.2.2.2.2)])), (ta, .inl (cI, 68, .inl Y.2.2.1))] s.heap.size = A at hD ⊢
  have hA : ∀ q : Nat, s.heap.size ≤ q → A q := fun q h => by rw [← hAe]; exact Or.inr h
  have hS : va_S A s.heap s.heap [] := va_S.rf
  have hP : va_P D jw_cl [(x, .inr (5, [.ref ca, .ref z, .ref nn])), (z, .inr (3, [.ref th, .ref ao, .ref an, .int (nI (js_N S)), .int (nI (js_up S)), .int (nI (js_tr S))])), (ao, .inl (cI, 60, .inl Y.1)), (an, .inl (cI, 60, .inl Y.2.1)), (th, .inr (4, [.ref ta, .int (nI Y.2.2.2.2)])), (ta, .inl (cI, 68, .inl Y.2.2.1))] s.heap := hP
  have hl := lv_entry ([.ref x]) (n := 1) (Nat.le_of_ble_eq_true rfl)
  rw [lg_entry_eq]
  generalize (lg_sl ([.ref x]) ++ List.replicate (1 - (lg_sl ([.ref x])).length) Slot.unset).toArray = ls at hl ⊢
  have hl : lv_has ls 1 [(0, .ref x)] := hl
  have hH := hI.1.2.1
  have hN := hI.1.1
  refine lv_aload_n hx hb d_J_restart_0 rfl (lv_at hl 0 rfl) ?_
  refine va_get (D := D) (ci := 5) (v := .ref z) (C := jn_J) (T := jf_J) (N := 3) hx hb ht ji_J hown hK hP 0 rfl rfl 1 (by decide) (ht _ k_J_21) (fun _ h9 => h9) rfl d_J_restart_1 ?_
  refine jw_rV (As := []) (rest := []) hx hb hml hown ht (m_S_isUp l D z ao an th _ _ _ (by omega)) (o_S_isUp) k_J_157 rfl rfl ⟨Nat.le_of_ble_eq_true rfl, Nat.le_of_ble_eq_true rfl⟩ (hP.sub [1] rfl) (hK.sub [] rfl) (va_recv (q0 := 1) (ci := 3) hK hP rfl rfl) rfl hl.1 rfl (Nat.le_of_ble_eq_true rfl) d_J_restart_4 ⟨Nat.zero_le _, Nat.zero_le _⟩ ?_
  refine lv_if_eq (tgt := 12) hx hb d_J_restart_7 (by decide) (fun h7 => ?_) (fun h7 => absurd (jw_ne0 (by omega) h7) (by omega))
  have h7 := jw_eq0 (by omega) h7
  refine lv_aload_n hx hb d_J_restart_12 rfl (lv_at hl 0 rfl) ?_
  refine va_get (D := D) (ci := 5) (v := .ref z) (C := jn_J) (T := jf_J) (N := 3) hx hb ht ji_J hown hK hP 0 rfl rfl 1 (by decide) (ht _ k_J_21) (fun _ h9 => h9) rfl d_J_restart_13 ?_
  refine jw_jv (ws := [(x, .inr (5, [.ref ca, .ref z, .ref nn])), (z, .inr (3, [.ref th, .ref ao, .ref an, .int (nI (js_N S)), .int (nI (js_up S)), .int (nI (js_tr S))])), (ao, .inl (cI, 60, .inl Y.1)), (an, .inl (cI, 60, .inl Y.2.1)), (th, .inr (4, [.ref ta, .int (nI Y.2.2.2.2)])), (ta, .inl (cI, 68, .inl Y.2.2.1))]) (wc := [(z, .inr (3, [.ref th, .ref ao, .ref an, .int (nI (js_N S)), .int (nI (js_up S)), .int (nI (js_tr S))])), (ao, .inl (cI, 60, .inl Y.1)), (an, .inl (cI, 60, .inl Y.2.1)), (th, .inr (4, [.ref ta, .int (nI Y.2.2.2.2)])), (ta, .inl (cI, 68, .inl Y.2.2.1))]) (wr := [(x, .inr (5, [.ref ca, .ref z, .ref nn]))]) (jw_uV (As := []) (rest := []) hx hb hml hown ht (m_S_comeUp l D _ z ao an th ta cI Y.1 Y.2.1 Y.2.2.1 (js_H S) (js_N S) (js_up S) (js_tr S) (js_num S) Y.2.2.2 hY.1 hH hN) (o_S_comeUp) k_J_192 rfl rfl ⟨Nat.le_of_ble_eq_true rfl, Nat.le_of_ble_eq_true rfl⟩ (hP.sub [1, 2, 3, 4, 5] rfl) (hK.sub [0] rfl) (hD.sub [1, 2, 3, 4, 5] (by decide) rfl) (va_recv (q0 := 1) (ci := 3) hK hP rfl rfl) rfl hl.1 rfl (Nat.le_of_ble_eq_true rfl) d_J_restart_16 ⟨Nat.zero_le _, Nat.zero_le _⟩) hP hD hS hA [1, 2, 3, 4, 5] [0] rfl rfl (by decide) (by decide) (fun u1 H locs hu1 hP hD hS => ?_)
  have hP : va_P D jw_cl [(x, .inr (5, [.ref ca, .ref z, .ref nn])), (z, .inr (3, [.ref th, .ref ao, .ref an, .int (nI (js_N S)), .int (nI 1), .int (nI 0)])), (ao, .inl (cI, 60, .inl Y.1)), (an, .inl (cI, 60, .inl Y.2.1)), (th, .inr (4, [.ref ta, .int (nI ((jt_tx (js_H S) (js_N S)).2))])), (ta, .inl (cI, 68, .inl u1))] H := hP
  have hD : va_D A [(x, .inr (5, [.ref ca, .ref z, .ref nn])), (z, .inr (3, [.ref th, .ref ao, .ref an, .int (nI (js_N S)), .int (nI 1), .int (nI 0)])), (ao, .inl (cI, 60, .inl Y.1)), (an, .inl (cI, 60, .inl Y.2.1)), (th, .inr (4, [.ref ta, .int (nI ((jt_tx (js_H S) (js_N S)).2))])), (ta, .inl (cI, 68, .inl u1))] := hD
  refine lv_iconst (v := nI 1) hx hb d_J_restart_19 (by decide) ?_
  have hP := hP.sub (ws' := [(x, .inr (5, [.ref ca, .ref z, .ref nn])), (z, .inr (3, [.ref th, .ref ao, .ref an, .int (nI (js_N S)), .int (nI 1), .int (nI 0)])), (ao, .inl (cI, 60, .inl Y.1)), (an, .inl (cI, 60, .inl Y.2.1)), (th, .inr (4, [.ref ta, .int (nI ((jt_tx (js_H S) (js_N S)).2))])), (ta, .inl (cI, 68, .inl u1))]) [0, 1, 2, 3, 4, 5] rfl
  have hD := hD.sub (ws' := [(x, .inr (5, [.ref ca, .ref z, .ref nn])), (z, .inr (3, [.ref th, .ref ao, .ref an, .int (nI (js_N S)), .int (nI 1), .int (nI 0)])), (ao, .inl (cI, 60, .inl Y.1)), (an, .inl (cI, 60, .inl Y.2.1)), (th, .inr (4, [.ref ta, .int (nI ((jt_tx (js_H S) (js_N S)).2))])), (ta, .inl (cI, 68, .inl u1))]) [0, 1, 2, 3, 4, 5] (by decide) rfl
  exact W.zret (v := nI 1) hx hb hr (by decide) (fun t9 ht9 hW9 => ⟨⟨nI 1, (Y.1, Y.2.1, u1, jt_tx (js_H S) (js_N S)), rfl, ⟨rfl, hY.1, hu1, by have h68 : (jt_tx (js_H S) (js_N S)).2 ≤ js_N S := jt_le_le _ _; show (jt_tx (js_H S) (js_N S)).2 ≤ 68; omega, fun _ => rfl⟩, by rw [ht9]; exact hP, hD⟩, hS.F ht9⟩) hS.2.2 d_J_restart_20
