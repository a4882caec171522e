def jT_P (av : List Value) (D : va_G) (cl : List vw_C) (wc : va_W) (tyc : List (ClassId × FieldType)) : Array Value → State → Prop := fun a U => jw_P av D cl wc tyc a U ∧ jT_st U
theorem jT_P_bl {av : List Value} {D : va_G} {cl : List vw_C} {wc : va_W} {tyc : List (ClassId × FieldType)} : FrameBlind (jT_P av D cl wc tyc) := fun a U g mk h => ⟨jw_P_bl a U g mk h.1, jT_keep (s := U) (State.WarmedH.refl U) (fun _ _ h => h) h.2⟩
theorem jT_P_of {av : List Value} {D : va_G} {cl : List vw_C} {wc : va_W} {tyc : List (ClassId × FieldType)} {s : State} {H : Heap} (hP : va_P D cl wc H) (hK : va_K D cl tyc s) (hst : jT_st s) (hh : ∀ (q : Nat) (c : Cell), s.heap[q]? = some c → H[q]? = some c) : ∀ U : State, U.heap = H → s.WarmedH U.vm → jT_P av D cl wc tyc av.toArray U := fun U hU hW => ⟨jw_P_of hP hK U hU hW, jT_keep hW (by rw [hU]; exact hh) hst⟩
theorem jT_nn {j : Nat} (h : j < 2 ^ 31) : ¬ nI j = (-1) := fun e => nI_pos h (by rw [e]; decide)
theorem kT_a : Cond.classLink "JointText" 36 "java/lang/IllegalArgumentException" ∈ jw_tbl := jw_in 517 (by decide +kernel) (by decide +kernel)
theorem iT_a : Cond.instantiable "java/lang/IllegalArgumentException" 6 ∈ jw_tbl := jw_in 518 (by decide +kernel) (by decide +kernel)
theorem nT_a : Cond.initialized "java/lang/IllegalArgumentException" ∈ jw_tbl := jw_in 44 (by decide +kernel) (by decide +kernel)
theorem kT_i : Cond.classLink "JointText" 49 "java/lang/IndexOutOfBoundsException" ∈ jw_tbl := jw_in 581 (by decide +kernel) (by decide +kernel)
theorem iT_i : Cond.instantiable "java/lang/IndexOutOfBoundsException" 6 ∈ jw_tbl := jw_in 582 (by decide +kernel) (by decide +kernel)
theorem nT_i : Cond.initialized "java/lang/IndexOutOfBoundsException" ∈ jw_tbl := jw_in 45 (by decide +kernel) (by decide +kernel)
theorem kT_s : Cond.classLink "JointText" 56 "java/lang/IllegalStateException" ∈ jw_tbl := jw_in 605 (by decide +kernel) (by decide +kernel)
theorem iT_s : Cond.instantiable "java/lang/IllegalStateException" 6 ∈ jw_tbl := jw_in 606 (by decide +kernel) (by decide +kernel)
theorem nT_s : Cond.initialized "java/lang/IllegalStateException" ∈ jw_tbl := jw_in 46 (by decide +kernel) (by decide +kernel)
theorem kT_n : Cond.classLink "JointText" 87 "java/util/NoSuchElementException" ∈ jw_tbl := jw_in 650 (by decide +kernel) (by decide +kernel)
theorem iT_n : Cond.instantiable "java/util/NoSuchElementException" 6 ∈ jw_tbl := jw_in 651 (by decide +kernel) (by decide +kernel)
theorem nT_n : Cond.initialized "java/util/NoSuchElementException" ∈ jw_tbl := jw_in 49 (by decide +kernel) (by decide +kernel)
set_option maxHeartbeats 4000000 in
set_option maxRecDepth 100000 in
theorem m_J_insert_a1 (l : Launch) (hlf : l.flags = pinnedFlags ++ [noTraceFlag]) (D : va_G) (x : Nat) (v w u : Int32) (hn : ¬ (¬ v < 0 ∧ ¬ nI 3 ≤ v)) : jT_Met l y_J_insert w_J_insert ({ frames := 6, cells := 1, slots := 6, locals := 81 }) (jT_P [.ref x, .int v, .int w, .int u] D jw_cl [] []) "java/lang/IllegalArgumentException" := by
  refine jT_Met.ofW (cc := c_J_insert) (maxL := 5) (ret := (some .int)) (by decide) rfl ?_
  intro pg0 en0 s m args below meth cd0 s₁ B hml hex hv
  obtain ⟨⟨rfl, hP, hK⟩, hst⟩ := hv
  have hx := B.exec
  have hb := B.bytes
  have hr := B.returns
  have hts := atoms_spec (ws := w_J_insert) B.pre
  have ht : ∀ w ∈ jw_tbl, w.before _ s = true := fun w h => hts w (List.mem_cons_of_mem _ h)
  have hown : s.vm.findClass jn_J = some m.cls := findClass_of_methodNamed B.named
  have hlocks := B.notSynchronized
  have hl := lv_entry ([.ref x, .int v, .int w, .int u]) (n := 5) (Nat.le_of_ble_eq_true rfl)
  rw [lg_entry_eq]
  generalize (lg_sl ([.ref x, .int v, .int w, .int u]) ++ List.replicate (5 - (lg_sl ([.ref x, .int v, .int w, .int u])).length) Slot.unset).toArray = ls at hl ⊢
  have hl : lv_has ls 5 [(0, .ref x), (1, .int v), (2, .int w), (3, .int u)] := hl
  refine lv_iload_n hx hb d_J_insert_0 rfl (lv_at hl 1 rfl) ?_
  refine jw_rS (As := [.int v]) (rest := []) hx hb hml hown ht (m_J_isClient_n l D v hn) (o_J_isClient) k_J_32 rfl rfl ⟨Nat.le_of_ble_eq_true rfl, Nat.le_of_ble_eq_true rfl⟩ (hP.sub [] rfl) (hK.sub [] rfl) rfl hl.1 rfl (Nat.le_of_ble_eq_true rfl) d_J_insert_1 ⟨Nat.zero_le _, Nat.zero_le _⟩ ?_
  refine lv_if_eq (tgt := 19) hx hb d_J_insert_4 (by decide) (fun h4 => ?_) (fun h4 => absurd (jw_ne0 (by omega) h4) (by omega))
  have h4 := jw_eq0 (by omega) h4
  exact jT_thr (X := "java/lang/IllegalArgumentException") hx hb hlf hown ht hst hex jT_ok_a (by decide) kT_a iT_a nT_a (hl.1.trans hml.symm) d_J_insert_19 d_J_insert_22 d_J_insert_23 d_J_insert_26 ⟨Nat.le_of_ble_eq_true rfl, Nat.le_of_ble_eq_true rfl, Nat.le_of_ble_eq_true rfl, Nat.le_of_ble_eq_true rfl⟩ hlocks

set_option maxHeartbeats 4000000 in
set_option maxRecDepth 100000 in
theorem m_J_insert_a2 (l : Launch) (hlf : l.flags = pinnedFlags ++ [noTraceFlag]) (D : va_G) (x k : Nat) (hk : k < 3) (w u : Int32) (hu : u < nI 32 ∨ ¬ u ≤ nI 126) : jT_Met l y_J_insert w_J_insert ({ frames := 6, cells := 1, slots := 6, locals := 81 }) (jT_P [.ref x, .int (nI k), .int w, .int u] D jw_cl [] []) "java/lang/IllegalArgumentException" := by
  refine jT_Met.ofW (cc := c_J_insert) (maxL := 5) (ret := (some .int)) (by decide) rfl ?_
  intro pg0 en0 s m args below meth cd0 s₁ B hml hex hv
  obtain ⟨⟨rfl, hP, hK⟩, hst⟩ := hv
  have hx := B.exec
  have hb := B.bytes
  have hr := B.returns
  have hts := atoms_spec (ws := w_J_insert) B.pre
  have ht : ∀ w ∈ jw_tbl, w.before _ s = true := fun w h => hts w (List.mem_cons_of_mem _ h)
  have hown : s.vm.findClass jn_J = some m.cls := findClass_of_methodNamed B.named
  have hlocks := B.notSynchronized
  have hl := lv_entry ([.ref x, .int (nI k), .int w, .int u]) (n := 5) (Nat.le_of_ble_eq_true rfl)
  rw [lg_entry_eq]
  generalize (lg_sl ([.ref x, .int (nI k), .int w, .int u]) ++ List.replicate (5 - (lg_sl ([.ref x, .int (nI k), .int w, .int u])).length) Slot.unset).toArray = ls at hl ⊢
  have hl : lv_has ls 5 [(0, .ref x), (1, .int (nI k)), (2, .int w), (3, .int u)] := hl
  refine lv_iload_n hx hb d_J_insert_0 rfl (lv_at hl 1 rfl) ?_
  refine jw_rS (As := [.int (nI k)]) (rest := []) hx hb hml hown ht (m_J_isClient_y l D k (by omega)) (o_J_isClient) k_J_32 rfl rfl ⟨Nat.le_of_ble_eq_true rfl, Nat.le_of_ble_eq_true rfl⟩ (hP.sub [] rfl) (hK.sub [] rfl) rfl hl.1 rfl (Nat.le_of_ble_eq_true rfl) d_J_insert_1 ⟨Nat.zero_le _, Nat.zero_le _⟩ ?_
  refine lv_if_eq (tgt := 19) hx hb d_J_insert_4 (by decide) (fun h4 => absurd (jw_eq0 (by omega) h4) (by omega)) (fun h4 => ?_)
  have h4 := jw_ne0 (by omega) h4
  refine lv_iload_n hx hb d_J_insert_7 rfl (lv_at hl 3 rfl) ?_
  refine lv_bipush (v := nI 32) hx hb d_J_insert_8 (by decide) ?_
  refine lv_icmp_lt (tgt := 19) hx hb d_J_insert_10 (by decide) (fun h10 => ?_) (fun h10 => ?_)
  · skip
    exact jT_thr (X := "java/lang/IllegalArgumentException") hx hb hlf hown ht hst hex jT_ok_a (by decide) kT_a iT_a nT_a (hl.1.trans hml.symm) d_J_insert_19 d_J_insert_22 d_J_insert_23 d_J_insert_26 ⟨Nat.le_of_ble_eq_true rfl, Nat.le_of_ble_eq_true rfl, Nat.le_of_ble_eq_true rfl, Nat.le_of_ble_eq_true rfl⟩ hlocks
  · skip
    refine lv_iload_n hx hb d_J_insert_13 rfl (lv_at hl 3 rfl) ?_
    refine lv_bipush (v := nI 126) hx hb d_J_insert_14 (by decide) ?_
    refine lv_icmp_le (tgt := 27) hx hb d_J_insert_16 (by decide) (fun h16 => (hu.elim h10 (fun z9 => z9 h16) : False).elim) (fun h16 => ?_)
    exact jT_thr (X := "java/lang/IllegalArgumentException") hx hb hlf hown ht hst hex jT_ok_a (by decide) kT_a iT_a nT_a (hl.1.trans hml.symm) d_J_insert_19 d_J_insert_22 d_J_insert_23 d_J_insert_26 ⟨Nat.le_of_ble_eq_true rfl, Nat.le_of_ble_eq_true rfl, Nat.le_of_ble_eq_true rfl, Nat.le_of_ble_eq_true rfl⟩ hlocks

set_option maxHeartbeats 4000000 in
set_option maxRecDepth 100000 in
theorem m_J_insert_i (l : Launch) (hlf : l.flags = pinnedFlags ++ [noTraceFlag]) (D : va_G) (x ca z nn q e h a g : Nat) (cC : ClassId) (gc : Nat → Option Nat) (v0 v5 v6 v7 : Int32) (n t k : Nat) (hk : k < 3) (hn8 : n ≤ 8) (ht68 : t ≤ 68) (hg : gc k = some q) (ch : Nat) (hch : 32 ≤ ch ∧ ch ≤ 126) (w : Int32) (hw : w < 0 ∨ ¬ w ≤ nI t) : jT_Met l y_J_insert w_J_insert ({ frames := 6, cells := 1, slots := 6, locals := 81 }) (jT_P [.ref x, .int (nI k), .int w, .int (nI ch)] D jw_cl [(x, .inr (5, [.ref ca, .ref z, .ref nn])), (ca, .inl (cC, 3, .inr (.inr (.inr (.inr gc))))), (q, .inr (0, [.int v0, .ref h, .ref g, .ref e, .int (nI n), .int v5, .int v6, .int v7])), (h, .inr (4, [.ref a, .int (nI t)]))] [(cC, .object "JointText$Client")]) "java/lang/IndexOutOfBoundsException" := by
  refine jT_Met.ofW (cc := c_J_insert) (maxL := 5) (ret := (some .int)) (by decide) rfl ?_
  intro pg0 en0 s m args below meth cd0 s₁ B hml hex hv
  obtain ⟨⟨rfl, hP, hK⟩, hst⟩ := hv
  have hx := B.exec
  have hb := B.bytes
  have hr := B.returns
  have hts := atoms_spec (ws := w_J_insert) B.pre
  have ht : ∀ w ∈ jw_tbl, w.before _ s = true := fun w h => hts w (List.mem_cons_of_mem _ h)
  have hown : s.vm.findClass jn_J = some m.cls := findClass_of_methodNamed B.named
  have hlocks := B.notSynchronized
  have hl := lv_entry ([.ref x, .int (nI k), .int w, .int (nI ch)]) (n := 5) (Nat.le_of_ble_eq_true rfl)
  rw [lg_entry_eq]
  generalize (lg_sl ([.ref x, .int (nI k), .int w, .int (nI ch)]) ++ List.replicate (5 - (lg_sl ([.ref x, .int (nI k), .int w, .int (nI ch)])).length) Slot.unset).toArray = ls at hl ⊢
  have hl : lv_has ls 5 [(0, .ref x), (1, .int (nI k)), (2, .int w), (3, .int (nI ch))] := hl
  refine lv_iload_n hx hb d_J_insert_0 rfl (lv_at hl 1 rfl) ?_
  refine jw_rS (As := [.int (nI k)]) (rest := []) hx hb hml hown ht (m_J_isClient_y l D k (by omega)) (o_J_isClient) k_J_32 rfl rfl ⟨Nat.le_of_ble_eq_true rfl, Nat.le_of_ble_eq_true rfl⟩ (hP.sub [] rfl) (hK.sub [] rfl) rfl hl.1 rfl (Nat.le_of_ble_eq_true rfl) d_J_insert_1 ⟨Nat.zero_le _, Nat.zero_le _⟩ ?_
  refine lv_if_eq (tgt := 19) hx hb d_J_insert_4 (by decide) (fun h4 => absurd (jw_eq0 (by omega) h4) (by omega)) (fun h4 => ?_)
  have h4 := jw_ne0 (by omega) h4
  refine lv_iload_n hx hb d_J_insert_7 rfl (lv_at hl 3 rfl) ?_
  refine lv_bipush (v := nI 32) hx hb d_J_insert_8 (by decide) ?_
  refine lv_icmp_lt (tgt := 19) hx hb d_J_insert_10 (by decide) (fun h10 => absurd (jw_lt (by omega) (by omega) h10) (by omega)) (fun h10 => ?_)
  have h10 := jw_nlt (by omega) (by omega) h10
  refine lv_iload_n hx hb d_J_insert_13 rfl (lv_at hl 3 rfl) ?_
  refine lv_bipush (v := nI 126) hx hb d_J_insert_14 (by decide) ?_
  refine lv_icmp_le (tgt := 27) hx hb d_J_insert_16 (by decide) (fun h16 => ?_) (fun h16 => absurd (jw_nle (by omega) (by omega) h16) (by omega))
  have h16 := jw_le (by omega) (by omega) h16
  refine lv_aload_n hx hb d_J_insert_27 rfl (lv_at hl 0 rfl) ?_
  refine va_get (D := D) (ci := 5) (v := .ref ca) (C := jn_J) (T := jf_J) (N := 3) hx hb ht ji_J hown hK hP 0 rfl rfl 0 (by decide) (ht _ k_J_14) (fun _ h9 => h9) rfl d_J_insert_28 ?_
  refine lv_iload_n hx hb d_J_insert_31 rfl (lv_at hl 1 rfl) ?_
  refine jw_ald (v := .ref q) hx hb hK hP 1 0 rfl rfl rfl (vp_in_nI (by omega) (by decide)) (by rw [show (nI k).toNatClampNeg = k from nI_clamp (by omega)]; exact (by rw [hg]; rfl)) d_J_insert_32 ?_
  refine lv_astore (lv' := [(4, .ref q), (0, .ref x), (1, .int (nI k)), (2, .int w), (3, .int (nI ch))]) hx hb d_J_insert_33 hl (by decide) rfl (fun ls hl => ?_)
  refine lv_iload_n hx hb d_J_insert_35 rfl (lv_at hl 3 rfl) ?_
  refine lv_if_lt (tgt := 51) hx hb d_J_insert_36 (by decide) (fun h36 => ?_) (fun h36 => ?_)
  · skip
    exact jT_thr (X := "java/lang/IndexOutOfBoundsException") hx hb hlf hown ht hst hex jT_ok_i (by decide) kT_i iT_i nT_i (hl.1.trans hml.symm) d_J_insert_51 d_J_insert_54 d_J_insert_55 d_J_insert_58 ⟨Nat.le_of_ble_eq_true rfl, Nat.le_of_ble_eq_true rfl, Nat.le_of_ble_eq_true rfl, Nat.le_of_ble_eq_true rfl⟩ hlocks
  · skip
    refine lv_iload_n hx hb d_J_insert_39 rfl (lv_at hl 3 rfl) ?_
    refine lv_aload hx hb d_J_insert_40 (lv_at hl 0 rfl) ?_
    refine va_get (D := D) (ci := 0) (v := .ref h) (C := jn_C) (T := jf_C) (N := 8) hx hb ht ji_C hown hK hP 2 rfl rfl 1 (by decide) (ht _ k_J_39) (fun _ h9 => h9) rfl d_J_insert_42 ?_
    refine jw_rV (As := []) (rest := [.int w]) hx hb hml hown ht (m_T_size l D h _ _) (o_T_size) k_J_43 rfl rfl ⟨Nat.le_of_ble_eq_true rfl, Nat.le_of_ble_eq_true rfl⟩ (hP.sub [3] rfl) (hK.sub [] rfl) (va_recv (q0 := 3) (ci := 4) hK hP rfl rfl) rfl hl.1 rfl (Nat.le_of_ble_eq_true rfl) d_J_insert_45 ⟨Nat.zero_le _, Nat.zero_le _⟩ ?_
    refine lv_icmp_le (tgt := 59) hx hb d_J_insert_48 (by decide) (fun h48 => (hw.elim h36 (fun z9 => z9 h48) : False).elim) (fun h48 => ?_)
    exact jT_thr (X := "java/lang/IndexOutOfBoundsException") hx hb hlf hown ht hst hex jT_ok_i (by decide) kT_i iT_i nT_i (hl.1.trans hml.symm) d_J_insert_51 d_J_insert_54 d_J_insert_55 d_J_insert_58 ⟨Nat.le_of_ble_eq_true rfl, Nat.le_of_ble_eq_true rfl, Nat.le_of_ble_eq_true rfl, Nat.le_of_ble_eq_true rfl⟩ hlocks

set_option maxHeartbeats 4000000 in
set_option maxRecDepth 100000 in
theorem m_J_insert_s (l : Launch) (hlf : l.flags = pinnedFlags ++ [noTraceFlag]) (D : va_G) (x ca z nn q e h a g : Nat) (cC : ClassId) (gc : Nat → Option Nat) (v0 v5 v6 v7 : Int32) (n t k : Nat) (hk : k < 3) (hn8 : n ≤ 8) (ht68 : t ≤ 68) (hg : gc k = some q) (ch p : Nat) (hch : 32 ≤ ch ∧ ch ≤ 126) (hp : p ≤ t) (hfull : 8 ≤ n ∨ 60 ≤ t) : jT_Met l y_J_insert w_J_insert ({ frames := 6, cells := 1, slots := 6, locals := 81 }) (jT_P [.ref x, .int (nI k), .int (nI p), .int (nI ch)] D jw_cl [(x, .inr (5, [.ref ca, .ref z, .ref nn])), (ca, .inl (cC, 3, .inr (.inr (.inr (.inr gc))))), (q, .inr (0, [.int v0, .ref h, .ref g, .ref e, .int (nI n), .int v5, .int v6, .int v7])), (h, .inr (4, [.ref a, .int (nI t)]))] [(cC, .object "JointText$Client")]) "java/lang/IllegalStateException" := by
  refine jT_Met.ofW (cc := c_J_insert) (maxL := 5) (ret := (some .int)) (by decide) rfl ?_
  intro pg0 en0 s m args below meth cd0 s₁ B hml hex hv
  obtain ⟨⟨rfl, hP, hK⟩, hst⟩ := hv
  have hx := B.exec
  have hb := B.bytes
  have hr := B.returns
  have hts := atoms_spec (ws := w_J_insert) B.pre
  have ht : ∀ w ∈ jw_tbl, w.before _ s = true := fun w h => hts w (List.mem_cons_of_mem _ h)
  have hown : s.vm.findClass jn_J = some m.cls := findClass_of_methodNamed B.named
  have hlocks := B.notSynchronized
  have hl := lv_entry ([.ref x, .int (nI k), .int (nI p), .int (nI ch)]) (n := 5) (Nat.le_of_ble_eq_true rfl)
  rw [lg_entry_eq]
  generalize (lg_sl ([.ref x, .int (nI k), .int (nI p), .int (nI ch)]) ++ List.replicate (5 - (lg_sl ([.ref x, .int (nI k), .int (nI p), .int (nI ch)])).length) Slot.unset).toArray = ls at hl ⊢
  have hl : lv_has ls 5 [(0, .ref x), (1, .int (nI k)), (2, .int (nI p)), (3, .int (nI ch))] := hl
  refine lv_iload_n hx hb d_J_insert_0 rfl (lv_at hl 1 rfl) ?_
  refine jw_rS (As := [.int (nI k)]) (rest := []) hx hb hml hown ht (m_J_isClient_y l D k (by omega)) (o_J_isClient) k_J_32 rfl rfl ⟨Nat.le_of_ble_eq_true rfl, Nat.le_of_ble_eq_true rfl⟩ (hP.sub [] rfl) (hK.sub [] rfl) rfl hl.1 rfl (Nat.le_of_ble_eq_true rfl) d_J_insert_1 ⟨Nat.zero_le _, Nat.zero_le _⟩ ?_
  refine lv_if_eq (tgt := 19) hx hb d_J_insert_4 (by decide) (fun h4 => absurd (jw_eq0 (by omega) h4) (by omega)) (fun h4 => ?_)
  have h4 := jw_ne0 (by omega) h4
  refine lv_iload_n hx hb d_J_insert_7 rfl (lv_at hl 3 rfl) ?_
  refine lv_bipush (v := nI 32) hx hb d_J_insert_8 (by decide) ?_
  refine lv_icmp_lt (tgt := 19) hx hb d_J_insert_10 (by decide) (fun h10 => absurd (jw_lt (by omega) (by omega) h10) (by omega)) (fun h10 => ?_)
  have h10 := jw_nlt (by omega) (by omega) h10
  refine lv_iload_n hx hb d_J_insert_13 rfl (lv_at hl 3 rfl) ?_
  refine lv_bipush (v := nI 126) hx hb d_J_insert_14 (by decide) ?_
  refine lv_icmp_le (tgt := 27) hx hb d_J_insert_16 (by decide) (fun h16 => ?_) (fun h16 => absurd (jw_nle (by omega) (by omega) h16) (by omega))
  have h16 := jw_le (by omega) (by omega) h16
  refine lv_aload_n hx hb d_J_insert_27 rfl (lv_at hl 0 rfl) ?_
  refine va_get (D := D) (ci := 5) (v := .ref ca) (C := jn_J) (T := jf_J) (N := 3) hx hb ht ji_J hown hK hP 0 rfl rfl 0 (by decide) (ht _ k_J_14) (fun _ h9 => h9) rfl d_J_insert_28 ?_
  refine lv_iload_n hx hb d_J_insert_31 rfl (lv_at hl 1 rfl) ?_
  refine jw_ald (v := .ref q) hx hb hK hP 1 0 rfl rfl rfl (vp_in_nI (by omega) (by decide)) (by rw [show (nI k).toNatClampNeg = k from nI_clamp (by omega)]; exact (by rw [hg]; rfl)) d_J_insert_32 ?_
  refine lv_astore (lv' := [(4, .ref q), (0, .ref x), (1, .int (nI k)), (2, .int (nI p)), (3, .int (nI ch))]) hx hb d_J_insert_33 hl (by decide) rfl (fun ls hl => ?_)
  refine lv_iload_n hx hb d_J_insert_35 rfl (lv_at hl 3 rfl) ?_
  refine lv_if_lt (tgt := 51) hx hb d_J_insert_36 (by decide) (fun h36 => absurd (jw_lt0 (by omega) h36) (by omega)) (fun h36 => ?_)
  have h36 := jw_nlt0 (by omega) h36
  refine lv_iload_n hx hb d_J_insert_39 rfl (lv_at hl 3 rfl) ?_
  refine lv_aload hx hb d_J_insert_40 (lv_at hl 0 rfl) ?_
  refine va_get (D := D) (ci := 0) (v := .ref h) (C := jn_C) (T := jf_C) (N := 8) hx hb ht ji_C hown hK hP 2 rfl rfl 1 (by decide) (ht _ k_J_39) (fun _ h9 => h9) rfl d_J_insert_42 ?_
  refine jw_rV (As := []) (rest := [.int (nI p)]) hx hb hml hown ht (m_T_size l D h _ _) (o_T_size) k_J_43 rfl rfl ⟨Nat.le_of_ble_eq_true rfl, Nat.le_of_ble_eq_true rfl⟩ (hP.sub [3] rfl) (hK.sub [] rfl) (va_recv (q0 := 3) (ci := 4) hK hP rfl rfl) rfl hl.1 rfl (Nat.le_of_ble_eq_true rfl) d_J_insert_45 ⟨Nat.zero_le _, Nat.zero_le _⟩ ?_
  refine lv_icmp_le (tgt := 59) hx hb d_J_insert_48 (by decide) (fun h48 => ?_) (fun h48 => absurd (jw_nle (by omega) (by omega) h48) (by omega))
  have h48 := jw_le (by omega) (by omega) h48
  refine lv_aload hx hb d_J_insert_59 (lv_at hl 0 rfl) ?_
  refine jw_rV (As := []) (rest := []) hx hb hml hown ht (m_C_isFull l D q e h a g _ _ _ _ n t (by omega) (by omega)) (o_C_isFull) k_J_52 rfl rfl ⟨Nat.le_of_ble_eq_true rfl, Nat.le_of_ble_eq_true rfl⟩ (hP.sub [2, 3] rfl) (hK.sub [] rfl) (va_recv (q0 := 2) (ci := 0) hK hP rfl rfl) rfl hl.1 rfl (Nat.le_of_ble_eq_true rfl) d_J_insert_61 ⟨Nat.zero_le _, Nat.zero_le _⟩ ?_
  refine lv_if_eq (tgt := 75) hx hb d_J_insert_64 (by decide) (fun h64 => absurd hfull (of_decide_eq_false (jw_b0 h64))) (fun h64 => ?_)
  exact jT_thr (X := "java/lang/IllegalStateException") hx hb hlf hown ht hst hex jT_ok_s (by decide) kT_s iT_s nT_s (hl.1.trans hml.symm) d_J_insert_67 d_J_insert_70 d_J_insert_71 d_J_insert_74 ⟨Nat.le_of_ble_eq_true rfl, Nat.le_of_ble_eq_true rfl, Nat.le_of_ble_eq_true rfl, Nat.le_of_ble_eq_true rfl⟩ hlocks

set_option maxHeartbeats 4000000 in
set_option maxRecDepth 100000 in
theorem m_J_erase_a (l : Launch) (hlf : l.flags = pinnedFlags ++ [noTraceFlag]) (D : va_G) (x : Nat) (v w : Int32) (hn : ¬ (¬ v < 0 ∧ ¬ nI 3 ≤ v)) : jT_Met l y_J_erase w_J_erase ({ frames := 6, cells := 1, slots := 6, locals := 81 }) (jT_P [.ref x, .int v, .int w] D jw_cl [] []) "java/lang/IllegalArgumentException" := by
  refine jT_Met.ofW (cc := c_J_erase) (maxL := 4) (ret := (some .int)) (by decide) rfl ?_
  intro pg0 en0 s m args below meth cd0 s₁ B hml hex hv
  obtain ⟨⟨rfl, hP, hK⟩, hst⟩ := hv
  have hx := B.exec
  have hb := B.bytes
  have hr := B.returns
  have hts := atoms_spec (ws := w_J_erase) B.pre
  have ht : ∀ w ∈ jw_tbl, w.before _ s = true := fun w h => hts w (List.mem_cons_of_mem _ h)
  have hown : s.vm.findClass jn_J = some m.cls := findClass_of_methodNamed B.named
  have hlocks := B.notSynchronized
  have hl := lv_entry ([.ref x, .int v, .int w]) (n := 4) (Nat.le_of_ble_eq_true rfl)
  rw [lg_entry_eq]
  generalize (lg_sl ([.ref x, .int v, .int w]) ++ List.replicate (4 - (lg_sl ([.ref x, .int v, .int w])).length) Slot.unset).toArray = ls at hl ⊢
  have hl : lv_has ls 4 [(0, .ref x), (1, .int v), (2, .int w)] := hl
  refine lv_iload_n hx hb d_J_erase_0 rfl (lv_at hl 1 rfl) ?_
  refine jw_rS (As := [.int v]) (rest := []) hx hb hml hown ht (m_J_isClient_n l D v hn) (o_J_isClient) k_J_32 rfl rfl ⟨Nat.le_of_ble_eq_true rfl, Nat.le_of_ble_eq_true rfl⟩ (hP.sub [] rfl) (hK.sub [] rfl) rfl hl.1 rfl (Nat.le_of_ble_eq_true rfl) d_J_erase_1 ⟨Nat.zero_le _, Nat.zero_le _⟩ ?_
  refine lv_if_ne (tgt := 15) hx hb d_J_erase_4 (by decide) (fun h4 => absurd (jw_ne0 (by omega) h4) (by omega)) (fun h4 => ?_)
  have h4 := jw_eq0 (by omega) h4
  exact jT_thr (X := "java/lang/IllegalArgumentException") hx hb hlf hown ht hst hex jT_ok_a (by decide) kT_a iT_a nT_a (hl.1.trans hml.symm) d_J_erase_7 d_J_erase_10 d_J_erase_11 d_J_erase_14 ⟨Nat.le_of_ble_eq_true rfl, Nat.le_of_ble_eq_true rfl, Nat.le_of_ble_eq_true rfl, Nat.le_of_ble_eq_true rfl⟩ hlocks

set_option maxHeartbeats 4000000 in
set_option maxRecDepth 100000 in
theorem m_J_erase_i (l : Launch) (hlf : l.flags = pinnedFlags ++ [noTraceFlag]) (D : va_G) (x ca z nn q e h a g : Nat) (cC : ClassId) (gc : Nat → Option Nat) (v0 v5 v6 v7 : Int32) (n t k : Nat) (hk : k < 3) (hn8 : n ≤ 8) (ht68 : t ≤ 68) (hg : gc k = some q) (w : Int32) (hw : ¬ (¬ w < 0 ∧ ¬ nI t ≤ w)) : jT_Met l y_J_erase w_J_erase ({ frames := 6, cells := 1, slots := 6, locals := 81 }) (jT_P [.ref x, .int (nI k), .int w] D jw_cl [(x, .inr (5, [.ref ca, .ref z, .ref nn])), (ca, .inl (cC, 3, .inr (.inr (.inr (.inr gc))))), (q, .inr (0, [.int v0, .ref h, .ref g, .ref e, .int (nI n), .int v5, .int v6, .int v7])), (h, .inr (4, [.ref a, .int (nI t)]))] [(cC, .object "JointText$Client")]) "java/lang/IndexOutOfBoundsException" := by
  refine jT_Met.ofW (cc := c_J_erase) (maxL := 4) (ret := (some .int)) (by decide) rfl ?_
  intro pg0 en0 s m args below meth cd0 s₁ B hml hex hv
  obtain ⟨⟨rfl, hP, hK⟩, hst⟩ := hv
  have hx := B.exec
  have hb := B.bytes
  have hr := B.returns
  have hts := atoms_spec (ws := w_J_erase) B.pre
  have ht : ∀ w ∈ jw_tbl, w.before _ s = true := fun w h => hts w (List.mem_cons_of_mem _ h)
  have hown : s.vm.findClass jn_J = some m.cls := findClass_of_methodNamed B.named
  have hlocks := B.notSynchronized
  have hl := lv_entry ([.ref x, .int (nI k), .int w]) (n := 4) (Nat.le_of_ble_eq_true rfl)
  rw [lg_entry_eq]
  generalize (lg_sl ([.ref x, .int (nI k), .int w]) ++ List.replicate (4 - (lg_sl ([.ref x, .int (nI k), .int w])).length) Slot.unset).toArray = ls at hl ⊢
  have hl : lv_has ls 4 [(0, .ref x), (1, .int (nI k)), (2, .int w)] := hl
  refine lv_iload_n hx hb d_J_erase_0 rfl (lv_at hl 1 rfl) ?_
  refine jw_rS (As := [.int (nI k)]) (rest := []) hx hb hml hown ht (m_J_isClient_y l D k (by omega)) (o_J_isClient) k_J_32 rfl rfl ⟨Nat.le_of_ble_eq_true rfl, Nat.le_of_ble_eq_true rfl⟩ (hP.sub [] rfl) (hK.sub [] rfl) rfl hl.1 rfl (Nat.le_of_ble_eq_true rfl) d_J_erase_1 ⟨Nat.zero_le _, Nat.zero_le _⟩ ?_
  refine lv_if_ne (tgt := 15) hx hb d_J_erase_4 (by decide) (fun h4 => ?_) (fun h4 => absurd (jw_eq0 (by omega) h4) (by omega))
  have h4 := jw_ne0 (by omega) h4
  refine lv_aload_n hx hb d_J_erase_15 rfl (lv_at hl 0 rfl) ?_
  refine va_get (D := D) (ci := 5) (v := .ref ca) (C := jn_J) (T := jf_J) (N := 3) hx hb ht ji_J hown hK hP 0 rfl rfl 0 (by decide) (ht _ k_J_14) (fun _ h9 => h9) rfl d_J_erase_16 ?_
  refine lv_iload_n hx hb d_J_erase_19 rfl (lv_at hl 1 rfl) ?_
  refine jw_ald (v := .ref q) hx hb hK hP 1 0 rfl rfl rfl (vp_in_nI (by omega) (by decide)) (by rw [show (nI k).toNatClampNeg = k from nI_clamp (by omega)]; exact (by rw [hg]; rfl)) d_J_erase_20 ?_
  refine lv_astore_n (lv' := [(3, .ref q), (0, .ref x), (1, .int (nI k)), (2, .int w)]) hx hb d_J_erase_21 rfl hl (by decide) rfl (fun ls hl => ?_)
  refine lv_aload_n hx hb d_J_erase_22 rfl (lv_at hl 0 rfl) ?_
  refine va_get (D := D) (ci := 0) (v := .ref h) (C := jn_C) (T := jf_C) (N := 8) hx hb ht ji_C hown hK hP 2 rfl rfl 1 (by decide) (ht _ k_J_39) (fun _ h9 => h9) rfl d_J_erase_23 ?_
  refine lv_iload_n hx hb d_J_erase_26 rfl (lv_at hl 3 rfl) ?_
  refine jw_rV (As := [.int w]) (rest := []) hx hb hml hown ht (m_T_has l D h _ _ w) (o_T_has) k_J_72 rfl rfl ⟨Nat.le_of_ble_eq_true rfl, Nat.le_of_ble_eq_true rfl⟩ (hP.sub [3] rfl) (hK.sub [] rfl) (va_recv (q0 := 3) (ci := 4) hK hP rfl rfl) rfl hl.1 rfl (Nat.le_of_ble_eq_true rfl) d_J_erase_27 ⟨Nat.zero_le _, Nat.zero_le _⟩ ?_
  refine lv_if_ne (tgt := 41) hx hb d_J_erase_30 (by decide) (fun h30 => (hw (of_decide_eq_true (jw_b1 h30))).elim) (fun h30 => ?_)
  exact jT_thr (X := "java/lang/IndexOutOfBoundsException") hx hb hlf hown ht hst hex jT_ok_i (by decide) kT_i iT_i nT_i (hl.1.trans hml.symm) d_J_erase_33 d_J_erase_36 d_J_erase_37 d_J_erase_40 ⟨Nat.le_of_ble_eq_true rfl, Nat.le_of_ble_eq_true rfl, Nat.le_of_ble_eq_true rfl, Nat.le_of_ble_eq_true rfl⟩ hlocks

set_option maxHeartbeats 4000000 in
set_option maxRecDepth 100000 in
theorem m_J_erase_s (l : Launch) (hlf : l.flags = pinnedFlags ++ [noTraceFlag]) (D : va_G) (x ca z nn q e h a g : Nat) (cC : ClassId) (gc : Nat → Option Nat) (v0 v5 v6 v7 : Int32) (n t k : Nat) (hk : k < 3) (hn8 : n ≤ 8) (ht68 : t ≤ 68) (hg : gc k = some q) (p : Nat) (hp : p < t) (hfull : 8 ≤ n) : jT_Met l y_J_erase w_J_erase ({ frames := 6, cells := 1, slots := 6, locals := 81 }) (jT_P [.ref x, .int (nI k), .int (nI p)] D jw_cl [(x, .inr (5, [.ref ca, .ref z, .ref nn])), (ca, .inl (cC, 3, .inr (.inr (.inr (.inr gc))))), (q, .inr (0, [.int v0, .ref h, .ref g, .ref e, .int (nI n), .int v5, .int v6, .int v7])), (h, .inr (4, [.ref a, .int (nI t)]))] [(cC, .object "JointText$Client")]) "java/lang/IllegalStateException" := by
  refine jT_Met.ofW (cc := c_J_erase) (maxL := 4) (ret := (some .int)) (by decide) rfl ?_
  intro pg0 en0 s m args below meth cd0 s₁ B hml hex hv
  obtain ⟨⟨rfl, hP, hK⟩, hst⟩ := hv
  have hx := B.exec
  have hb := B.bytes
  have hr := B.returns
  have hts := atoms_spec (ws := w_J_erase) B.pre
  have ht : ∀ w ∈ jw_tbl, w.before _ s = true := fun w h => hts w (List.mem_cons_of_mem _ h)
  have hown : s.vm.findClass jn_J = some m.cls := findClass_of_methodNamed B.named
  have hlocks := B.notSynchronized
  have hl := lv_entry ([.ref x, .int (nI k), .int (nI p)]) (n := 4) (Nat.le_of_ble_eq_true rfl)
  rw [lg_entry_eq]
  generalize (lg_sl ([.ref x, .int (nI k), .int (nI p)]) ++ List.replicate (4 - (lg_sl ([.ref x, .int (nI k), .int (nI p)])).length) Slot.unset).toArray = ls at hl ⊢
  have hl : lv_has ls 4 [(0, .ref x), (1, .int (nI k)), (2, .int (nI p))] := hl
  refine lv_iload_n hx hb d_J_erase_0 rfl (lv_at hl 1 rfl) ?_
  refine jw_rS (As := [.int (nI k)]) (rest := []) hx hb hml hown ht (m_J_isClient_y l D k (by omega)) (o_J_isClient) k_J_32 rfl rfl ⟨Nat.le_of_ble_eq_true rfl, Nat.le_of_ble_eq_true rfl⟩ (hP.sub [] rfl) (hK.sub [] rfl) rfl hl.1 rfl (Nat.le_of_ble_eq_true rfl) d_J_erase_1 ⟨Nat.zero_le _, Nat.zero_le _⟩ ?_
  refine lv_if_ne (tgt := 15) hx hb d_J_erase_4 (by decide) (fun h4 => ?_) (fun h4 => absurd (jw_eq0 (by omega) h4) (by omega))
  have h4 := jw_ne0 (by omega) h4
  refine lv_aload_n hx hb d_J_erase_15 rfl (lv_at hl 0 rfl) ?_
  refine va_get (D := D) (ci := 5) (v := .ref ca) (C := jn_J) (T := jf_J) (N := 3) hx hb ht ji_J hown hK hP 0 rfl rfl 0 (by decide) (ht _ k_J_14) (fun _ h9 => h9) rfl d_J_erase_16 ?_
  refine lv_iload_n hx hb d_J_erase_19 rfl (lv_at hl 1 rfl) ?_
  refine jw_ald (v := .ref q) hx hb hK hP 1 0 rfl rfl rfl (vp_in_nI (by omega) (by decide)) (by rw [show (nI k).toNatClampNeg = k from nI_clamp (by omega)]; exact (by rw [hg]; rfl)) d_J_erase_20 ?_
  refine lv_astore_n (lv' := [(3, .ref q), (0, .ref x), (1, .int (nI k)), (2, .int (nI p))]) hx hb d_J_erase_21 rfl hl (by decide) rfl (fun ls hl => ?_)
  refine lv_aload_n hx hb d_J_erase_22 rfl (lv_at hl 0 rfl) ?_
  refine va_get (D := D) (ci := 0) (v := .ref h) (C := jn_C) (T := jf_C) (N := 8) hx hb ht ji_C hown hK hP 2 rfl rfl 1 (by decide) (ht _ k_J_39) (fun _ h9 => h9) rfl d_J_erase_23 ?_
  refine lv_iload_n hx hb d_J_erase_26 rfl (lv_at hl 3 rfl) ?_
  refine jw_rV (As := [.int (nI p)]) (rest := []) hx hb hml hown ht (m_T_has_y l D h _ t p (by omega) (by omega)) (o_T_has) k_J_72 rfl rfl ⟨Nat.le_of_ble_eq_true rfl, Nat.le_of_ble_eq_true rfl⟩ (hP.sub [3] rfl) (hK.sub [] rfl) (va_recv (q0 := 3) (ci := 4) hK hP rfl rfl) rfl hl.1 rfl (Nat.le_of_ble_eq_true rfl) d_J_erase_27 ⟨Nat.zero_le _, Nat.zero_le _⟩ ?_
  refine lv_if_ne (tgt := 41) hx hb d_J_erase_30 (by decide) (fun h30 => ?_) (fun h30 => absurd (jw_eq0 (by omega) h30) (by omega))
  have h30 := jw_ne0 (by omega) h30
  refine lv_aload_n hx hb d_J_erase_41 rfl (lv_at hl 0 rfl) ?_
  refine jw_rV (As := []) (rest := []) hx hb hml hown ht (m_C_hasMostPending l D q e h g _ _ _ _ n (by omega)) (o_C_hasMostPending) k_J_75 rfl rfl ⟨Nat.le_of_ble_eq_true rfl, Nat.le_of_ble_eq_true rfl⟩ (hP.sub [2] rfl) (hK.sub [] rfl) (va_recv (q0 := 2) (ci := 0) hK hP rfl rfl) rfl hl.1 rfl (Nat.le_of_ble_eq_true rfl) d_J_erase_42 ⟨Nat.zero_le _, Nat.zero_le _⟩ ?_
  refine lv_if_eq (tgt := 56) hx hb d_J_erase_45 (by decide) (fun h45 => absurd hfull (of_decide_eq_false (jw_b0 h45))) (fun h45 => ?_)
  exact jT_thr (X := "java/lang/IllegalStateException") hx hb hlf hown ht hst hex jT_ok_s (by decide) kT_s iT_s nT_s (hl.1.trans hml.symm) d_J_erase_48 d_J_erase_51 d_J_erase_52 d_J_erase_55 ⟨Nat.le_of_ble_eq_true rfl, Nat.le_of_ble_eq_true rfl, Nat.le_of_ble_eq_true rfl, Nat.le_of_ble_eq_true rfl⟩ hlocks

set_option maxHeartbeats 4000000 in
set_option maxRecDepth 100000 in
theorem m_J_undo_a (l : Launch) (hlf : l.flags = pinnedFlags ++ [noTraceFlag]) (D : va_G) (x : Nat) (v : Int32) (hn : ¬ (¬ v < 0 ∧ ¬ nI 3 ≤ v)) : jT_Met l y_J_undo w_J_undo ({ frames := 6, cells := 1, slots := 6, locals := 81 }) (jT_P [.ref x, .int v] D jw_cl [] []) "java/lang/IllegalArgumentException" := by
  refine jT_Met.ofW (cc := c_J_undo) (maxL := 5) (ret := (some .int)) (by decide) rfl ?_
  intro pg0 en0 s m args below meth cd0 s₁ B hml hex hv
  obtain ⟨⟨rfl, hP, hK⟩, hst⟩ := hv
  have hx := B.exec
  have hb := B.bytes
  have hr := B.returns
  have hts := atoms_spec (ws := w_J_undo) B.pre
  have ht : ∀ w ∈ jw_tbl, w.before _ s = true := fun w h => hts w (List.mem_cons_of_mem _ h)
  have hown : s.vm.findClass jn_J = some m.cls := findClass_of_methodNamed B.named
  have hlocks := B.notSynchronized
  have hl := lv_entry ([.ref x, .int v]) (n := 5) (Nat.le_of_ble_eq_true rfl)
  rw [lg_entry_eq]
  generalize (lg_sl ([.ref x, .int v]) ++ List.replicate (5 - (lg_sl ([.ref x, .int v])).length) Slot.unset).toArray = ls at hl ⊢
  have hl : lv_has ls 5 [(0, .ref x), (1, .int v)] := hl
  refine lv_iload_n hx hb d_J_undo_0 rfl (lv_at hl 1 rfl) ?_
  refine jw_rS (As := [.int v]) (rest := []) hx hb hml hown ht (m_J_isClient_n l D v hn) (o_J_isClient) k_J_32 rfl rfl ⟨Nat.le_of_ble_eq_true rfl, Nat.le_of_ble_eq_true rfl⟩ (hP.sub [] rfl) (hK.sub [] rfl) rfl hl.1 rfl (Nat.le_of_ble_eq_true rfl) d_J_undo_1 ⟨Nat.zero_le _, Nat.zero_le _⟩ ?_
  refine lv_if_ne (tgt := 15) hx hb d_J_undo_4 (by decide) (fun h4 => absurd (jw_ne0 (by omega) h4) (by omega)) (fun h4 => ?_)
  have h4 := jw_eq0 (by omega) h4
  exact jT_thr (X := "java/lang/IllegalArgumentException") hx hb hlf hown ht hst hex jT_ok_a (by decide) kT_a iT_a nT_a (hl.1.trans hml.symm) d_J_undo_7 d_J_undo_10 d_J_undo_11 d_J_undo_14 ⟨Nat.le_of_ble_eq_true rfl, Nat.le_of_ble_eq_true rfl, Nat.le_of_ble_eq_true rfl, Nat.le_of_ble_eq_true rfl⟩ hlocks

set_option maxHeartbeats 4000000 in
set_option maxRecDepth 100000 in
theorem m_J_undo_n (l : Launch) (hlf : l.flags = pinnedFlags ++ [noTraceFlag]) (D : va_G) (b0 b1 b2 : Nat) (cI cZ : ClassId) (fo fc fu : Nat → Int32) (C : jt_C) (hf : jt_rl fo fc fu C) (hln : jc_ln C ≤ 68) (x ca z nn q e h a g : Nat) (cC : ClassId) (gc : Nat → Option Nat) (v0 v5 v6 v7 : Int32) (n t k : Nat) (hk : k < 3) (hn8 : n ≤ 8) (ht68 : t ≤ 68) (hg : gc k = some q) (hla : jt_la (jc_lf C) (jc_ln C) = none) : jT_Met l y_J_undo w_J_undo ({ frames := 6, cells := 1, slots := 6, locals := 81 }) (jT_P [.ref x, .int (nI k)] D jw_cl [(x, .inr (5, [.ref ca, .ref z, .ref nn])), (ca, .inl (cC, 3, .inr (.inr (.inr (.inr gc))))), (q, .inr (0, [.int v0, .ref h, .ref g, .ref e, .int (nI n), .int v5, .int v6, .int v7])), (h, .inr (4, [.ref a, .int (nI t)])), (g, .inr (2, [.ref b0, .ref b1, .ref b2, .int (nI (jc_ln C))])), (b0, .inl (cI, 68, .inl fo)), (b1, .inl (cI, 68, .inl fc)), (b2, .inl (cZ, 68, .inl fu))] [(cI, .int), (cZ, .boolean), (cC, .object "JointText$Client")]) "java/util/NoSuchElementException" := by
  refine jT_Met.ofW (cc := c_J_undo) (maxL := 5) (ret := (some .int)) (by decide) rfl ?_
  intro pg0 en0 s m args below meth cd0 s₁ B hml hex hv
  obtain ⟨⟨rfl, hP, hK⟩, hst⟩ := hv
  have hx := B.exec
  have hb := B.bytes
  have hr := B.returns
  have hts := atoms_spec (ws := w_J_undo) B.pre
  have ht : ∀ w ∈ jw_tbl, w.before _ s = true := fun w h => hts w (List.mem_cons_of_mem _ h)
  have hown : s.vm.findClass jn_J = some m.cls := findClass_of_methodNamed B.named
  have hlocks := B.notSynchronized
  have hl := lv_entry ([.ref x, .int (nI k)]) (n := 5) (Nat.le_of_ble_eq_true rfl)
  rw [lg_entry_eq]
  generalize (lg_sl ([.ref x, .int (nI k)]) ++ List.replicate (5 - (lg_sl ([.ref x, .int (nI k)])).length) Slot.unset).toArray = ls at hl ⊢
  have hl : lv_has ls 5 [(0, .ref x), (1, .int (nI k))] := hl
  refine lv_iload_n hx hb d_J_undo_0 rfl (lv_at hl 1 rfl) ?_
  refine jw_rS (As := [.int (nI k)]) (rest := []) hx hb hml hown ht (m_J_isClient_y l D k (by omega)) (o_J_isClient) k_J_32 rfl rfl ⟨Nat.le_of_ble_eq_true rfl, Nat.le_of_ble_eq_true rfl⟩ (hP.sub [] rfl) (hK.sub [] rfl) rfl hl.1 rfl (Nat.le_of_ble_eq_true rfl) d_J_undo_1 ⟨Nat.zero_le _, Nat.zero_le _⟩ ?_
  refine lv_if_ne (tgt := 15) hx hb d_J_undo_4 (by decide) (fun h4 => ?_) (fun h4 => absurd (jw_eq0 (by omega) h4) (by omega))
  have h4 := jw_ne0 (by omega) h4
  refine lv_aload_n hx hb d_J_undo_15 rfl (lv_at hl 0 rfl) ?_
  refine va_get (D := D) (ci := 5) (v := .ref ca) (C := jn_J) (T := jf_J) (N := 3) hx hb ht ji_J hown hK hP 0 rfl rfl 0 (by decide) (ht _ k_J_14) (fun _ h9 => h9) rfl d_J_undo_16 ?_
  refine lv_iload_n hx hb d_J_undo_19 rfl (lv_at hl 1 rfl) ?_
  refine jw_ald (v := .ref q) hx hb hK hP 1 2 rfl rfl rfl (vp_in_nI (by omega) (by decide)) (by rw [show (nI k).toNatClampNeg = k from nI_clamp (by omega)]; exact (by rw [hg]; rfl)) d_J_undo_20 ?_
  refine lv_astore_n (lv' := [(2, .ref q), (0, .ref x), (1, .int (nI k))]) hx hb d_J_undo_21 rfl hl (by decide) rfl (fun ls hl => ?_)
  refine lv_aload_n hx hb d_J_undo_22 rfl (lv_at hl 0 rfl) ?_
  refine va_get (D := D) (ci := 0) (v := .ref g) (C := jn_C) (T := jf_C) (N := 8) hx hb ht ji_C hown hK hP 2 rfl rfl 2 (by decide) (ht _ k_J_78) (fun _ h9 => h9) rfl d_J_undo_23 ?_
  refine jw_rV (As := []) (rest := []) hx hb hml hown ht (m_G_latestToUndo l D g b0 b1 b2 cI cZ _ _ _ C hf hln) (o_G_latestToUndo) k_J_82 rfl rfl ⟨Nat.le_of_ble_eq_true rfl, Nat.le_of_ble_eq_true rfl⟩ (hP.sub [4, 5, 6, 7] rfl) (hK.sub [0, 1] rfl) (va_recv (q0 := 4) (ci := 2) hK hP rfl rfl) rfl hl.1 rfl (Nat.le_of_ble_eq_true rfl) d_J_undo_26 ⟨Nat.zero_le _, Nat.zero_le _⟩ ?_
  refine lv_istore_n (lv' := [(3, .int (jw_oi (jt_la (jc_lf C) (jc_ln C)))), (2, .ref q), (0, .ref x), (1, .int (nI k))]) hx hb d_J_undo_29 rfl hl (by decide) rfl (fun ls hl => ?_)
  refine lv_iload_n hx hb d_J_undo_30 rfl (lv_at hl 0 rfl) ?_
  refine lv_iconst (v := (-1)) hx hb d_J_undo_31 (by decide) ?_
  refine lv_icmp_ne (tgt := 43) hx hb d_J_undo_32 (by decide) (fun h32 => absurd (show jw_oi (jt_la (jc_lf C) (jc_ln C)) = (-1) by rw [hla]; rfl) h32) (fun h32 => ?_)
  exact jT_thr (X := "java/util/NoSuchElementException") hx hb hlf hown ht hst hex jT_ok_n (by decide) kT_n iT_n nT_n (hl.1.trans hml.symm) d_J_undo_35 d_J_undo_38 d_J_undo_39 d_J_undo_42 ⟨Nat.le_of_ble_eq_true rfl, Nat.le_of_ble_eq_true rfl, Nat.le_of_ble_eq_true rfl, Nat.le_of_ble_eq_true rfl⟩ hlocks

set_option maxHeartbeats 4000000 in
set_option maxRecDepth 100000 in
theorem m_J_undo_s (l : Launch) (hlf : l.flags = pinnedFlags ++ [noTraceFlag]) (D : va_G) (b0 b1 b2 : Nat) (cI cZ : ClassId) (fo fc fu : Nat → Int32) (C : jt_C) (hf : jt_rl fo fc fu C) (hln : jc_ln C ≤ 68) (x ca z nn q e h a g : Nat) (cC : ClassId) (gc : Nat → Option Nat) (v0 v5 v6 v7 : Int32) (n t k : Nat) (hk : k < 3) (hn8 : n ≤ 8) (ht68 : t ≤ 68) (hg : gc k = some q) (j : Nat) (hla : jt_la (jc_lf C) (jc_ln C) = some j) (hfull : 8 ≤ n ∨ 60 ≤ t) : jT_Met l y_J_undo w_J_undo ({ frames := 6, cells := 1, slots := 6, locals := 81 }) (jT_P [.ref x, .int (nI k)] D jw_cl [(x, .inr (5, [.ref ca, .ref z, .ref nn])), (ca, .inl (cC, 3, .inr (.inr (.inr (.inr gc))))), (q, .inr (0, [.int v0, .ref h, .ref g, .ref e, .int (nI n), .int v5, .int v6, .int v7])), (h, .inr (4, [.ref a, .int (nI t)])), (g, .inr (2, [.ref b0, .ref b1, .ref b2, .int (nI (jc_ln C))])), (b0, .inl (cI, 68, .inl fo)), (b1, .inl (cI, 68, .inl fc)), (b2, .inl (cZ, 68, .inl fu))] [(cI, .int), (cZ, .boolean), (cC, .object "JointText$Client")]) "java/lang/IllegalStateException" := by
  refine jT_Met.ofW (cc := c_J_undo) (maxL := 5) (ret := (some .int)) (by decide) rfl ?_
  intro pg0 en0 s m args below meth cd0 s₁ B hml hex hv
  obtain ⟨⟨rfl, hP, hK⟩, hst⟩ := hv
  have hx := B.exec
  have hb := B.bytes
  have hr := B.returns
  have hts := atoms_spec (ws := w_J_undo) B.pre
  have ht : ∀ w ∈ jw_tbl, w.before _ s = true := fun w h => hts w (List.mem_cons_of_mem _ h)
  have hown : s.vm.findClass jn_J = some m.cls := findClass_of_methodNamed B.named
  have hlocks := B.notSynchronized
  have hl := lv_entry ([.ref x, .int (nI k)]) (n := 5) (Nat.le_of_ble_eq_true rfl)
  rw [lg_entry_eq]
  generalize (lg_sl ([.ref x, .int (nI k)]) ++ List.replicate (5 - (lg_sl ([.ref x, .int (nI k)])).length) Slot.unset).toArray = ls at hl ⊢
  have hl : lv_has ls 5 [(0, .ref x), (1, .int (nI k))] := hl
  have hj := (jt_la_some hla).1
  refine lv_iload_n hx hb d_J_undo_0 rfl (lv_at hl 1 rfl) ?_
  refine jw_rS (As := [.int (nI k)]) (rest := []) hx hb hml hown ht (m_J_isClient_y l D k (by omega)) (o_J_isClient) k_J_32 rfl rfl ⟨Nat.le_of_ble_eq_true rfl, Nat.le_of_ble_eq_true rfl⟩ (hP.sub [] rfl) (hK.sub [] rfl) rfl hl.1 rfl (Nat.le_of_ble_eq_true rfl) d_J_undo_1 ⟨Nat.zero_le _, Nat.zero_le _⟩ ?_
  refine lv_if_ne (tgt := 15) hx hb d_J_undo_4 (by decide) (fun h4 => ?_) (fun h4 => absurd (jw_eq0 (by omega) h4) (by omega))
  have h4 := jw_ne0 (by omega) h4
  refine lv_aload_n hx hb d_J_undo_15 rfl (lv_at hl 0 rfl) ?_
  refine va_get (D := D) (ci := 5) (v := .ref ca) (C := jn_J) (T := jf_J) (N := 3) hx hb ht ji_J hown hK hP 0 rfl rfl 0 (by decide) (ht _ k_J_14) (fun _ h9 => h9) rfl d_J_undo_16 ?_
  refine lv_iload_n hx hb d_J_undo_19 rfl (lv_at hl 1 rfl) ?_
  refine jw_ald (v := .ref q) hx hb hK hP 1 2 rfl rfl rfl (vp_in_nI (by omega) (by decide)) (by rw [show (nI k).toNatClampNeg = k from nI_clamp (by omega)]; exact (by rw [hg]; rfl)) d_J_undo_20 ?_
  refine lv_astore_n (lv' := [(2, .ref q), (0, .ref x), (1, .int (nI k))]) hx hb d_J_undo_21 rfl hl (by decide) rfl (fun ls hl => ?_)
  refine lv_aload_n hx hb d_J_undo_22 rfl (lv_at hl 0 rfl) ?_
  refine va_get (D := D) (ci := 0) (v := .ref g) (C := jn_C) (T := jf_C) (N := 8) hx hb ht ji_C hown hK hP 2 rfl rfl 2 (by decide) (ht _ k_J_78) (fun _ h9 => h9) rfl d_J_undo_23 ?_
  refine jw_rV (As := []) (rest := []) hx hb hml hown ht (m_G_latestToUndo l D g b0 b1 b2 cI cZ _ _ _ C hf hln) (o_G_latestToUndo) k_J_82 rfl rfl ⟨Nat.le_of_ble_eq_true rfl, Nat.le_of_ble_eq_true rfl⟩ (hP.sub [4, 5, 6, 7] rfl) (hK.sub [0, 1] rfl) (va_recv (q0 := 4) (ci := 2) hK hP rfl rfl) rfl hl.1 rfl (Nat.le_of_ble_eq_true rfl) d_J_undo_26 ⟨Nat.zero_le _, Nat.zero_le _⟩ ?_
  refine W.eq (g2 := F0 m 29 ls [.int (nI j)]) (by rw [hla]; rfl) ?_
  refine lv_istore_n (lv' := [(3, .int (nI j)), (2, .ref q), (0, .ref x), (1, .int (nI k))]) hx hb d_J_undo_29 rfl hl (by decide) rfl (fun ls hl => ?_)
  refine lv_iload_n hx hb d_J_undo_30 rfl (lv_at hl 0 rfl) ?_
  refine lv_iconst (v := (-1)) hx hb d_J_undo_31 (by decide) ?_
  refine lv_icmp_ne (tgt := 43) hx hb d_J_undo_32 (by decide) (fun h32 => ?_) (fun h32 => absurd h32 (jT_nn (by omega)))
  refine lv_aload_n hx hb d_J_undo_43 rfl (lv_at hl 1 rfl) ?_
  refine jw_rV (As := []) (rest := []) hx hb hml hown ht (m_C_isFull l D q e h a g _ _ _ _ n t (by omega) (by omega)) (o_C_isFull) k_J_52 rfl rfl ⟨Nat.le_of_ble_eq_true rfl, Nat.le_of_ble_eq_true rfl⟩ (hP.sub [2, 3] rfl) (hK.sub [] rfl) (va_recv (q0 := 2) (ci := 0) hK hP rfl rfl) rfl hl.1 rfl (Nat.le_of_ble_eq_true rfl) d_J_undo_44 ⟨Nat.zero_le _, Nat.zero_le _⟩ ?_
  refine lv_if_eq (tgt := 58) hx hb d_J_undo_47 (by decide) (fun h47 => absurd hfull (of_decide_eq_false (jw_b0 h47))) (fun h47 => ?_)
  exact jT_thr (X := "java/lang/IllegalStateException") hx hb hlf hown ht hst hex jT_ok_s (by decide) kT_s iT_s nT_s (hl.1.trans hml.symm) d_J_undo_50 d_J_undo_53 d_J_undo_54 d_J_undo_57 ⟨Nat.le_of_ble_eq_true rfl, Nat.le_of_ble_eq_true rfl, Nat.le_of_ble_eq_true rfl, Nat.le_of_ble_eq_true rfl⟩ hlocks

set_option maxHeartbeats 4000000 in
set_option maxRecDepth 100000 in
theorem m_J_character_a (l : Launch) (hlf : l.flags = pinnedFlags ++ [noTraceFlag]) (D : va_G) (x : Nat) (v w : Int32) (hn : ¬ ((¬ v < 0 ∧ ¬ nI 3 ≤ v) ∨ v = nI 3)) : jT_Met l y_J_character w_J_character ({ frames := 6, cells := 1, slots := 6, locals := 81 }) (jT_P [.ref x, .int v, .int w] D jw_cl [] []) "java/lang/IllegalArgumentException" := by
  refine jT_Met.ofW (cc := c_J_character) (maxL := 4) (ret := (some .int)) (by decide) rfl ?_
  intro pg0 en0 s m args below meth cd0 s₁ B hml hex hv
  obtain ⟨⟨rfl, hP, hK⟩, hst⟩ := hv
  have hx := B.exec
  have hb := B.bytes
  have hr := B.returns
  have hts := atoms_spec (ws := w_J_character) B.pre
  have ht : ∀ w ∈ jw_tbl, w.before _ s = true := fun w h => hts w (List.mem_cons_of_mem _ h)
  have hown : s.vm.findClass jn_J = some m.cls := findClass_of_methodNamed B.named
  have hlocks := B.notSynchronized
  have hl := lv_entry ([.ref x, .int v, .int w]) (n := 4) (Nat.le_of_ble_eq_true rfl)
  rw [lg_entry_eq]
  generalize (lg_sl ([.ref x, .int v, .int w]) ++ List.replicate (4 - (lg_sl ([.ref x, .int v, .int w])).length) Slot.unset).toArray = ls at hl ⊢
  have hl : lv_has ls 4 [(0, .ref x), (1, .int v), (2, .int w)] := hl
  refine lv_iload_n hx hb d_J_character_0 rfl (lv_at hl 1 rfl) ?_
  refine jw_rS (As := [.int v]) (rest := []) hx hb hml hown ht (m_J_isSide_n l D v hn) (o_J_isSide) k_J_97 rfl rfl ⟨Nat.le_of_ble_eq_true rfl, Nat.le_of_ble_eq_true rfl⟩ (hP.sub [] rfl) (hK.sub [] rfl) rfl hl.1 rfl (Nat.le_of_ble_eq_true rfl) d_J_character_1 ⟨Nat.zero_le _, Nat.zero_le _⟩ ?_
  refine lv_if_ne (tgt := 15) hx hb d_J_character_4 (by decide) (fun h4 => absurd (jw_ne0 (by omega) h4) (by omega)) (fun h4 => ?_)
  have h4 := jw_eq0 (by omega) h4
  exact jT_thr (X := "java/lang/IllegalArgumentException") hx hb hlf hown ht hst hex jT_ok_a (by decide) kT_a iT_a nT_a (hl.1.trans hml.symm) d_J_character_7 d_J_character_10 d_J_character_11 d_J_character_14 ⟨Nat.le_of_ble_eq_true rfl, Nat.le_of_ble_eq_true rfl, Nat.le_of_ble_eq_true rfl, Nat.le_of_ble_eq_true rfl⟩ hlocks

set_option maxHeartbeats 4000000 in
set_option maxRecDepth 100000 in
theorem m_J_character_s (l : Launch) (hlf : l.flags = pinnedFlags ++ [noTraceFlag]) (D : va_G) (x ca z nn ao an th : Nat) (S : jt_S) (hup : js_up S ≤ 1) (w : Int32) (hdn : js_up S = 0) : jT_Met l y_J_character w_J_character ({ frames := 6, cells := 1, slots := 6, locals := 81 }) (jT_P [.ref x, .int (nI 3), .int w] D jw_cl [(x, .inr (5, [.ref ca, .ref z, .ref nn])), (z, .inr (3, [.ref th, .ref ao, .ref an, .int (nI (js_N S)), .int (nI (js_up S)), .int (nI (js_tr S))]))] []) "java/lang/IllegalStateException" := by
  refine jT_Met.ofW (cc := c_J_character) (maxL := 4) (ret := (some .int)) (by decide) rfl ?_
  intro pg0 en0 s m args below meth cd0 s₁ B hml hex hv
  obtain ⟨⟨rfl, hP, hK⟩, hst⟩ := hv
  have hx := B.exec
  have hb := B.bytes
  have hr := B.returns
  have hts := atoms_spec (ws := w_J_character) B.pre
  have ht : ∀ w ∈ jw_tbl, w.before _ s = true := fun w h => hts w (List.mem_cons_of_mem _ h)
  have hown : s.vm.findClass jn_J = some m.cls := findClass_of_methodNamed B.named
  have hlocks := B.notSynchronized
  have hl := lv_entry ([.ref x, .int (nI 3), .int w]) (n := 4) (Nat.le_of_ble_eq_true rfl)
  rw [lg_entry_eq]
  generalize (lg_sl ([.ref x, .int (nI 3), .int w]) ++ List.replicate (4 - (lg_sl ([.ref x, .int (nI 3), .int w])).length) Slot.unset).toArray = ls at hl ⊢
  have hl : lv_has ls 4 [(0, .ref x), (1, .int (nI 3)), (2, .int w)] := hl
  refine lv_iload_n hx hb d_J_character_0 rfl (lv_at hl 1 rfl) ?_
  refine jw_rS (As := [.int (nI 3)]) (rest := []) hx hb hml hown ht (m_J_isSide_y l D 3 (by omega)) (o_J_isSide) k_J_97 rfl rfl ⟨Nat.le_of_ble_eq_true rfl, Nat.le_of_ble_eq_true rfl⟩ (hP.sub [] rfl) (hK.sub [] rfl) rfl hl.1 rfl (Nat.le_of_ble_eq_true rfl) d_J_character_1 ⟨Nat.zero_le _, Nat.zero_le _⟩ ?_
  refine lv_if_ne (tgt := 15) hx hb d_J_character_4 (by decide) (fun h4 => ?_) (fun h4 => absurd (jw_eq0 (by omega) h4) (by omega))
  have h4 := jw_ne0 (by omega) h4
  refine lv_aload_n hx hb d_J_character_15 rfl (lv_at hl 0 rfl) ?_
  refine lv_iload_n hx hb d_J_character_16 rfl (lv_at hl 1 rfl) ?_
  refine jw_rV (As := [.int (nI 3)]) (rest := []) hx hb hml hown ht (m_J_isDown_s l D x ca z nn ao an th S hup) (o_J_isDown) k_J_100 rfl rfl ⟨Nat.le_of_ble_eq_true rfl, Nat.le_of_ble_eq_true rfl⟩ (hP.sub [0, 1] rfl) (hK.sub [] rfl) (va_recv (q0 := 0) (ci := 5) hK hP rfl rfl) rfl hl.1 rfl (Nat.le_of_ble_eq_true rfl) d_J_character_17 ⟨Nat.zero_le _, Nat.zero_le _⟩ ?_
  refine lv_if_eq (tgt := 31) hx hb d_J_character_20 (by decide) (fun h20 => absurd hdn (of_decide_eq_false (jw_b0 h20))) (fun h20 => ?_)
  exact jT_thr (X := "java/lang/IllegalStateException") hx hb hlf hown ht hst hex jT_ok_s (by decide) kT_s iT_s nT_s (hl.1.trans hml.symm) d_J_character_23 d_J_character_26 d_J_character_27 d_J_character_30 ⟨Nat.le_of_ble_eq_true rfl, Nat.le_of_ble_eq_true rfl, Nat.le_of_ble_eq_true rfl, Nat.le_of_ble_eq_true rfl⟩ hlocks

set_option maxHeartbeats 4000000 in
set_option maxRecDepth 100000 in
theorem m_J_character_is (l : Launch) (hlf : l.flags = pinnedFlags ++ [noTraceFlag]) (D : va_G) (x ca z nn ao an th : Nat) (S : jt_S) (hup : js_up S ≤ 1) (ta t : Nat) (w : Int32) (hdn : js_up S ≠ 0) (hw : ¬ (¬ w < 0 ∧ ¬ nI t ≤ w)) : jT_Met l y_J_character w_J_character ({ frames := 6, cells := 1, slots := 6, locals := 81 }) (jT_P [.ref x, .int (nI 3), .int w] D jw_cl [(x, .inr (5, [.ref ca, .ref z, .ref nn])), (z, .inr (3, [.ref th, .ref ao, .ref an, .int (nI (js_N S)), .int (nI (js_up S)), .int (nI (js_tr S))])), (th, .inr (4, [.ref ta, .int (nI t)]))] []) "java/lang/IndexOutOfBoundsException" := by
  refine jT_Met.ofW (cc := c_J_character) (maxL := 4) (ret := (some .int)) (by decide) rfl ?_
  intro pg0 en0 s m args below meth cd0 s₁ B hml hex hv
  obtain ⟨⟨rfl, hP, hK⟩, hst⟩ := hv
  have hx := B.exec
  have hb := B.bytes
  have hr := B.returns
  have hts := atoms_spec (ws := w_J_character) B.pre
  have ht : ∀ w ∈ jw_tbl, w.before _ s = true := fun w h => hts w (List.mem_cons_of_mem _ h)
  have hown : s.vm.findClass jn_J = some m.cls := findClass_of_methodNamed B.named
  have hlocks := B.notSynchronized
  have hl := lv_entry ([.ref x, .int (nI 3), .int w]) (n := 4) (Nat.le_of_ble_eq_true rfl)
  rw [lg_entry_eq]
  generalize (lg_sl ([.ref x, .int (nI 3), .int w]) ++ List.replicate (4 - (lg_sl ([.ref x, .int (nI 3), .int w])).length) Slot.unset).toArray = ls at hl ⊢
  have hl : lv_has ls 4 [(0, .ref x), (1, .int (nI 3)), (2, .int w)] := hl
  refine lv_iload_n hx hb d_J_character_0 rfl (lv_at hl 1 rfl) ?_
  refine jw_rS (As := [.int (nI 3)]) (rest := []) hx hb hml hown ht (m_J_isSide_y l D 3 (by omega)) (o_J_isSide) k_J_97 rfl rfl ⟨Nat.le_of_ble_eq_true rfl, Nat.le_of_ble_eq_true rfl⟩ (hP.sub [] rfl) (hK.sub [] rfl) rfl hl.1 rfl (Nat.le_of_ble_eq_true rfl) d_J_character_1 ⟨Nat.zero_le _, Nat.zero_le _⟩ ?_
  refine lv_if_ne (tgt := 15) hx hb d_J_character_4 (by decide) (fun h4 => ?_) (fun h4 => absurd (jw_eq0 (by omega) h4) (by omega))
  have h4 := jw_ne0 (by omega) h4
  refine lv_aload_n hx hb d_J_character_15 rfl (lv_at hl 0 rfl) ?_
  refine lv_iload_n hx hb d_J_character_16 rfl (lv_at hl 1 rfl) ?_
  refine jw_rV (As := [.int (nI 3)]) (rest := []) hx hb hml hown ht (m_J_isDown_s l D x ca z nn ao an th S hup) (o_J_isDown) k_J_100 rfl rfl ⟨Nat.le_of_ble_eq_true rfl, Nat.le_of_ble_eq_true rfl⟩ (hP.sub [0, 1] rfl) (hK.sub [] rfl) (va_recv (q0 := 0) (ci := 5) hK hP rfl rfl) rfl hl.1 rfl (Nat.le_of_ble_eq_true rfl) d_J_character_17 ⟨Nat.zero_le _, Nat.zero_le _⟩ ?_
  refine lv_if_eq (tgt := 31) hx hb d_J_character_20 (by decide) (fun h20 => ?_) (fun h20 => absurd (of_decide_eq_true (jw_b1 h20)) hdn)
  refine lv_aload_n hx hb d_J_character_31 rfl (lv_at hl 0 rfl) ?_
  refine lv_iload_n hx hb d_J_character_32 rfl (lv_at hl 1 rfl) ?_
  refine jw_rV (As := [.int (nI 3)]) (rest := []) hx hb hml hown ht (m_J_textOf_s l D x ca z nn ao an th _ _ _) (o_J_textOf) k_J_103 rfl rfl ⟨Nat.le_of_ble_eq_true rfl, Nat.le_of_ble_eq_true rfl⟩ (hP.sub [0, 1] rfl) (hK.sub [] rfl) (va_recv (q0 := 0) (ci := 5) hK hP rfl rfl) rfl hl.1 rfl (Nat.le_of_ble_eq_true rfl) d_J_character_33 ⟨Nat.zero_le _, Nat.zero_le _⟩ ?_
  refine lv_astore_n (lv' := [(3, .ref th), (0, .ref x), (1, .int (nI 3)), (2, .int w)]) hx hb d_J_character_36 rfl hl (by decide) rfl (fun ls hl => ?_)
  refine lv_aload_n hx hb d_J_character_37 rfl (lv_at hl 0 rfl) ?_
  refine lv_iload_n hx hb d_J_character_38 rfl (lv_at hl 3 rfl) ?_
  refine jw_rV (As := [.int w]) (rest := []) hx hb hml hown ht (m_T_has l D th _ _ w) (o_T_has) k_J_72 rfl rfl ⟨Nat.le_of_ble_eq_true rfl, Nat.le_of_ble_eq_true rfl⟩ (hP.sub [2] rfl) (hK.sub [] rfl) (va_recv (q0 := 2) (ci := 4) hK hP rfl rfl) rfl hl.1 rfl (Nat.le_of_ble_eq_true rfl) d_J_character_39 ⟨Nat.zero_le _, Nat.zero_le _⟩ ?_
  refine lv_if_ne (tgt := 53) hx hb d_J_character_42 (by decide) (fun h42 => (hw (of_decide_eq_true (jw_b1 h42))).elim) (fun h42 => ?_)
  exact jT_thr (X := "java/lang/IndexOutOfBoundsException") hx hb hlf hown ht hst hex jT_ok_i (by decide) kT_i iT_i nT_i (hl.1.trans hml.symm) d_J_character_45 d_J_character_48 d_J_character_49 d_J_character_52 ⟨Nat.le_of_ble_eq_true rfl, Nat.le_of_ble_eq_true rfl, Nat.le_of_ble_eq_true rfl, Nat.le_of_ble_eq_true rfl⟩ hlocks

set_option maxHeartbeats 4000000 in
set_option maxRecDepth 100000 in
theorem m_J_character_ic (l : Launch) (hlf : l.flags = pinnedFlags ++ [noTraceFlag]) (D : va_G) (x ca z nn q e h a g : Nat) (cC : ClassId) (gc : Nat → Option Nat) (v0 v5 v6 v7 : Int32) (n t k : Nat) (hk : k < 3) (hn8 : n ≤ 8) (ht68 : t ≤ 68) (hg : gc k = some q) (w : Int32) (hw : ¬ (¬ w < 0 ∧ ¬ nI t ≤ w)) : jT_Met l y_J_character w_J_character ({ frames := 6, cells := 1, slots := 6, locals := 81 }) (jT_P [.ref x, .int (nI k), .int w] D jw_cl [(x, .inr (5, [.ref ca, .ref z, .ref nn])), (ca, .inl (cC, 3, .inr (.inr (.inr (.inr gc))))), (q, .inr (0, [.int v0, .ref h, .ref g, .ref e, .int (nI n), .int v5, .int v6, .int v7])), (h, .inr (4, [.ref a, .int (nI t)]))] [(cC, .object "JointText$Client")]) "java/lang/IndexOutOfBoundsException" := by
  refine jT_Met.ofW (cc := c_J_character) (maxL := 4) (ret := (some .int)) (by decide) rfl ?_
  intro pg0 en0 s m args below meth cd0 s₁ B hml hex hv
  obtain ⟨⟨rfl, hP, hK⟩, hst⟩ := hv
  have hx := B.exec
  have hb := B.bytes
  have hr := B.returns
  have hts := atoms_spec (ws := w_J_character) B.pre
  have ht : ∀ w ∈ jw_tbl, w.before _ s = true := fun w h => hts w (List.mem_cons_of_mem _ h)
  have hown : s.vm.findClass jn_J = some m.cls := findClass_of_methodNamed B.named
  have hlocks := B.notSynchronized
  have hl := lv_entry ([.ref x, .int (nI k), .int w]) (n := 4) (Nat.le_of_ble_eq_true rfl)
  rw [lg_entry_eq]
  generalize (lg_sl ([.ref x, .int (nI k), .int w]) ++ List.replicate (4 - (lg_sl ([.ref x, .int (nI k), .int w])).length) Slot.unset).toArray = ls at hl ⊢
  have hl : lv_has ls 4 [(0, .ref x), (1, .int (nI k)), (2, .int w)] := hl
  refine lv_iload_n hx hb d_J_character_0 rfl (lv_at hl 1 rfl) ?_
  refine jw_rS (As := [.int (nI k)]) (rest := []) hx hb hml hown ht (m_J_isSide_y l D k (by omega)) (o_J_isSide) k_J_97 rfl rfl ⟨Nat.le_of_ble_eq_true rfl, Nat.le_of_ble_eq_true rfl⟩ (hP.sub [] rfl) (hK.sub [] rfl) rfl hl.1 rfl (Nat.le_of_ble_eq_true rfl) d_J_character_1 ⟨Nat.zero_le _, Nat.zero_le _⟩ ?_
  refine lv_if_ne (tgt := 15) hx hb d_J_character_4 (by decide) (fun h4 => ?_) (fun h4 => absurd (jw_eq0 (by omega) h4) (by omega))
  have h4 := jw_ne0 (by omega) h4
  refine lv_aload_n hx hb d_J_character_15 rfl (lv_at hl 0 rfl) ?_
  refine lv_iload_n hx hb d_J_character_16 rfl (lv_at hl 1 rfl) ?_
  refine jw_rV (As := [.int (nI k)]) (rest := []) hx hb hml hown ht (m_J_isDown_c l D x k (by omega)) (o_J_isDown) k_J_100 rfl rfl ⟨Nat.le_of_ble_eq_true rfl, Nat.le_of_ble_eq_true rfl⟩ (hP.sub [] rfl) (hK.sub [] rfl) (va_recv (q0 := 0) (ci := 5) hK hP rfl rfl) rfl hl.1 rfl (Nat.le_of_ble_eq_true rfl) d_J_character_17 ⟨Nat.zero_le _, Nat.zero_le _⟩ ?_
  refine lv_if_eq (tgt := 31) hx hb d_J_character_20 (by decide) (fun h20 => ?_) (fun h20 => absurd (jw_ne0 (by omega) h20) (by omega))
  have h20 := jw_eq0 (by omega) h20
  refine lv_aload_n hx hb d_J_character_31 rfl (lv_at hl 0 rfl) ?_
  refine lv_iload_n hx hb d_J_character_32 rfl (lv_at hl 1 rfl) ?_
  refine jw_rV (As := [.int (nI k)]) (rest := []) hx hb hml hown ht (m_J_textOf_c l D x ca z nn q e h g cC gc _ _ _ _ _ k hk hg) (o_J_textOf) k_J_103 rfl rfl ⟨Nat.le_of_ble_eq_true rfl, Nat.le_of_ble_eq_true rfl⟩ (hP.sub [0, 1, 2] rfl) (hK.sub [0] rfl) (va_recv (q0 := 0) (ci := 5) hK hP rfl rfl) rfl hl.1 rfl (Nat.le_of_ble_eq_true rfl) d_J_character_33 ⟨Nat.zero_le _, Nat.zero_le _⟩ ?_
  refine lv_astore_n (lv' := [(3, .ref h), (0, .ref x), (1, .int (nI k)), (2, .int w)]) hx hb d_J_character_36 rfl hl (by decide) rfl (fun ls hl => ?_)
  refine lv_aload_n hx hb d_J_character_37 rfl (lv_at hl 0 rfl) ?_
  refine lv_iload_n hx hb d_J_character_38 rfl (lv_at hl 3 rfl) ?_
  refine jw_rV (As := [.int w]) (rest := []) hx hb hml hown ht (m_T_has l D h _ _ w) (o_T_has) k_J_72 rfl rfl ⟨Nat.le_of_ble_eq_true rfl, Nat.le_of_ble_eq_true rfl⟩ (hP.sub [3] rfl) (hK.sub [] rfl) (va_recv (q0 := 3) (ci := 4) hK hP rfl rfl) rfl hl.1 rfl (Nat.le_of_ble_eq_true rfl) d_J_character_39 ⟨Nat.zero_le _, Nat.zero_le _⟩ ?_
  refine lv_if_ne (tgt := 53) hx hb d_J_character_42 (by decide) (fun h42 => (hw (of_decide_eq_true (jw_b1 h42))).elim) (fun h42 => ?_)
  exact jT_thr (X := "java/lang/IndexOutOfBoundsException") hx hb hlf hown ht hst hex jT_ok_i (by decide) kT_i iT_i nT_i (hl.1.trans hml.symm) d_J_character_45 d_J_character_48 d_J_character_49 d_J_character_52 ⟨Nat.le_of_ble_eq_true rfl, Nat.le_of_ble_eq_true rfl, Nat.le_of_ble_eq_true rfl, Nat.le_of_ble_eq_true rfl⟩ hlocks
