def jT_pairs : List (String × String) := [("java/lang/IndexOutOfBoundsException", "java/lang/IllegalArgumentException"), ("java/lang/IllegalStateException", "java/lang/IllegalArgumentException"), ("java/lang/IllegalStateException", "java/lang/IndexOutOfBoundsException"), ("java/util/NoSuchElementException", "java/lang/IllegalArgumentException"), ("java/lang/IllegalStateException", "java/util/NoSuchElementException"), ("java/lang/IndexOutOfBoundsException", "java/lang/IllegalStateException")]
def jT_nc (U : State) : Prop := ∀ q ∈ jT_pairs, (Cond.not (.castable q.1 q.2)).before #[] U = true
theorem jT_nc1 {s U : State} {a b : String} (hW : s.WarmedH U.vm) (h : (Cond.not (.castable a b)).before #[] s = true) : (Cond.not (.castable a b)).before #[] U = true := by
  have h1 := Cond.holds_not_iff.mp h
  refine Cond.holds_not_iff.mpr ?_
  simp only [Cond.value] at h1 ⊢
  rw [hW.alike.findClass, hW.alike.findClass]
  cases ha : s.vm.findClass a with
  | none => rw [ha] at h1; cases h1
  | some ca =>
    cases hb : s.vm.findClass b with
    | none => rw [ha, hb] at h1; cases h1
    | some cb =>
      rw [ha, hb] at h1
      simp only at h1 ⊢
      rw [hW.alike.assignable]
      exact h1
theorem jT_nc_keep {s U : State} (hW : s.WarmedH U.vm) (h : jT_nc s) : jT_nc U := fun q hq => jT_nc1 hW (h q hq)
theorem jT_nca {s : State} {args : Array Value} (h : jT_nc s) (i : Nat) {q : String × String} (hq : jT_pairs[i]? = some q) : (Cond.not (.castable q.1 q.2)).before args s = true := h q (List.mem_of_getElem? hq)
theorem jT_tbl3 {L : List ExceptionTableEntry} {a1 a2 a3 a4 b1 b2 b3 b4 c1 c2 c3 c4 : Nat} (h : L.map (fun h => (h.startPc, h.endPc, h.handlerPc, h.catchType)) = [(a1, a2, a3, a4), (b1, b2, b3, b4), (c1, c2, c3, c4)]) : L = [⟨a1, a2, a3, a4⟩, ⟨b1, b2, b3, b4⟩, ⟨c1, c2, c3, c4⟩] := by
  match L, h with
  | [⟨_, _, _, _⟩, ⟨_, _, _, _⟩, ⟨_, _, _, _⟩], h =>
    simp only [List.map_cons, List.map_nil, List.cons.injEq, Prod.mk.injEq, and_true] at h
    obtain ⟨⟨rfl, rfl, rfl, rfl⟩, ⟨rfl, rfl, rfl, rfl⟩, rfl, rfl, rfl, rfl⟩ := h
    rfl
def jT_WP (av : List Value) (x : Nat) (fs : List Value) (D : va_G) (wc : va_W) (tyc : List (ClassId × FieldType)) : Array Value → State → Prop := va_Pc av (fun U => va_P D jw_cl [(x, .inr (5, fs))] U.heap ∧ va_P D jw_cl wc U.heap ∧ va_K D jw_cl tyc U ∧ jT_st U ∧ jT_nc U)
theorem jT_WP_bl {av : List Value} {x : Nat} {fs : List Value} {D : va_G} {wc : va_W} {tyc : List (ClassId × FieldType)} : FrameBlind (jT_WP av x fs D wc tyc) := fun a U g mk q => ⟨q.1, q.2.1, q.2.2.1, va_K.moved (u := U) (U := U.calling g mk a) (Vm.Alike.refl U.vm) q.2.2.2.1, jT_keep (s := U) (State.WarmedH.refl U) (fun _ _ h => h) q.2.2.2.2.1, jT_nc_keep (s := U) (State.WarmedH.refl U) q.2.2.2.2.2⟩
theorem jT_WP_of {av : List Value} {x : Nat} {fs : List Value} {D : va_G} {wc : va_W} {tyc : List (ClassId × FieldType)} {s : State} {H : Heap} (hPx : va_P D jw_cl [(x, .inr (5, fs))] H) (hP : va_P D jw_cl wc H) (hK : va_K D jw_cl tyc s) (hst : jT_st s) (hnc : jT_nc s) (hh : ∀ (q : Nat) (c : Cell), s.heap[q]? = some c → H[q]? = some c) : ∀ U : State, U.heap = H → s.WarmedH U.vm → jT_WP av x fs D wc tyc av.toArray U := fun U hU hW => ⟨rfl, by rw [hU]; exact hPx, by rw [hU]; exact hP, va_K.moved hW.alike hK, jT_keep hW (by rw [hU]; exact hh) hst, jT_nc_keep hW hnc⟩
/-- what such a wrapper leaves: its number; all that was there, as it was -/
def jT_WQ (k : Int32) : Array Value → State → Outcome → State → Prop := fun _ st o t => o = .returned (some (.int k)) ∧ ∀ (q : Nat) (c : Cell), st.heap[q]? = some c → t.heap[q]? = some c
theorem jT_hC {o : Nat × va_E} {wc : va_W} : ((List.range wc.length).map (· + 1)).map (fun i => (o :: wc)[i]?) = wc.map some := by
  apply List.ext_getElem?
  intro i
  simp only [List.getElem?_map, List.getElem?_range]
  by_cases h : i < wc.length
  · simp [h]
  · simp [h]
theorem jT_hdis {wc : va_W} : ∀ i ∈ [0], i ∉ (List.range wc.length).map (· + 1) := by
  intro i hi h
  rw [List.mem_singleton.mp hi] at h
  obtain ⟨j, -, hj⟩ := List.mem_map.mp h
  omega
theorem kW_a : Cond.classLink jn_W 13 "java/lang/IllegalArgumentException" ∈ jw_tbl := jw_in 510 (by decide +kernel) (by decide +kernel)
theorem kW_i : Cond.classLink jn_W 15 "java/lang/IndexOutOfBoundsException" ∈ jw_tbl := jw_in 511 (by decide +kernel) (by decide +kernel)
theorem kW_s : Cond.classLink jn_W 17 "java/lang/IllegalStateException" ∈ jw_tbl := jw_in 512 (by decide +kernel) (by decide +kernel)
theorem kW_n : Cond.classLink jn_W 27 "java/util/NoSuchElementException" ∈ jw_tbl := jw_in 641 (by decide +kernel) (by decide +kernel)
abbrev hd_insert : List (Nat × Nat × Nat × Nat) := [(0, 12, 15, 13), (0, 12, 19, 15), (0, 12, 23, 17)]
abbrev ww_insert : List Cond := Cond.codeWith y_W_insert c_W_insert 6 (some .int) hd_insert :: jw_tbl
theorem oW_insert : jT_OS y_W_insert c_W_insert 6 (some .int) hd_insert 5 := ⟨jw_in 508 (by decide +kernel) (by decide +kernel), jw_in 33 (by decide +kernel) (by decide +kernel), jw_in 509 (by decide +kernel) (by decide +kernel), by decide, by decide, by decide +kernel⟩
set_option maxHeartbeats 1000000 in
set_option maxRecDepth 100000 in
theorem m_W_insert_t1 (l : Launch) (D : va_G) (x oo : Nat) (fs : List Value) (v1 v2 v3 : Int32) (wc : va_W) (tyc : List (ClassId × FieldType)) (hM : jT_Met l y_J_insert w_J_insert ({ frames := 6, cells := 1, slots := 6, locals := 81 }) (jT_P [.ref x, .int v1, .int v2, .int v3] D jw_cl wc tyc) "java/lang/IllegalArgumentException") : Met l y_W_insert ww_insert ({ frames := 7, cells := 1, slots := 6, locals := 105 }) (jT_WP [.ref x, .int v1, .int v2, .int v3, .ref oo] x fs D wc tyc) (jT_WQ (nI 1)) 1 6 (fun _ => False) := by
  refine jT_MetW (cc := c_W_insert) (maxL := 6) (ret := some .int) (hd := hd_insert) (by decide) rfl ?_
  intro pg0 en0 s m args below meth cd0 s₁ B hml hhd hv
  obtain ⟨rfl, hPx, hP, hK, hst, hnc⟩ := hv
  have hx := B.exec
  have hb := B.bytes
  have hr := B.returns
  have hts := atoms_spec (ws := ww_insert) B.pre
  have ht : ∀ w ∈ jw_tbl, w.before _ s = true := fun w h => hts w (List.mem_cons_of_mem _ h)
  have hown : s.vm.findClass jn_W = some m.cls := findClass_of_methodNamed B.named
  have hlocks := B.notSynchronized
  have hl := lv_entry ([.ref x, .int v1, .int v2, .int v3, .ref oo]) (n := 6) (Nat.le_of_ble_eq_true rfl)
  rw [lg_entry_eq]
  generalize (lg_sl ([.ref x, .int v1, .int v2, .int v3, .ref oo]) ++ List.replicate (6 - (lg_sl ([.ref x, .int v1, .int v2, .int v3, .ref oo])).length) Slot.unset).toArray = ls at hl ⊢
  have hl : lv_has ls 6 [(0, .ref x), (1, .int v1), (2, .int v2), (3, .int v3), (4, .ref oo)] := hl
  refine lv_aload hx hb d_W_insert_0 (lv_at hl 4 rfl) ?_
  refine lv_iconst (v := nI 0) hx hb d_W_insert_2 (by decide) ?_
  refine lv_aload_n hx hb d_W_insert_3 rfl (lv_at hl 0 rfl) ?_
  refine lv_iload_n hx hb d_W_insert_4 rfl (lv_at hl 1 rfl) ?_
  refine lv_iload_n hx hb d_W_insert_5 rfl (lv_at hl 2 rfl) ?_
  refine lv_iload_n hx hb d_W_insert_6 rfl (lv_at hl 3 rfl) ?_
  refine jT_call (X := "java/lang/IllegalArgumentException") (As := [.int v1, .int v2, .int v3]) (rest := [.int (nI 0), .ref oo]) hx hb hml hown ht hM o_J_insert k_W_7 rfl rfl ⟨Nat.le_of_ble_eq_true rfl, Nat.le_of_ble_eq_true rfl⟩ jT_P_bl (jT_P_of hP hK hst (fun _ _ h => h)) (va_recv (q0 := 0) (ci := 5) hK hPx rfl rfl) rfl hl.1 rfl (Nat.le_of_ble_eq_true rfl) d_W_insert_7 ⟨Nat.le_of_ble_eq_true rfl, Nat.le_of_ble_eq_true rfl⟩ [] ⟨0, 12, 15, 13⟩ [⟨0, 12, 19, 15⟩, ⟨0, 12, 23, 17⟩] (jT_tbl3 hhd) (fun z h => by cases h) (by decide) (by decide) (ht _ kW_a) (jT_args hst _ _ (List.mem_of_getElem? (i := 7) rfl)) (fun a9 H9 hk9 => ?_)
  refine W.eq (g2 := F0 m 15 ls [.ref a9]) rfl ?_
  refine lv_astore (lv' := [(5, .ref a9), (0, .ref x), (1, .int v1), (2, .int v2), (3, .int v3), (4, .ref oo)]) hx hb d_W_insert_15 hl (by decide) rfl (fun ls hl => ?_)
  refine lv_iconst (v := nI 1) hx hb d_W_insert_17 (by decide) ?_
  exact W.iret (v := nI 1) hx hb hr (fun t9 ht9 _ => ⟨rfl, by rw [ht9]; exact hk9⟩) (fun q h => by cases h) d_W_insert_18

set_option maxHeartbeats 1000000 in
set_option maxRecDepth 100000 in
theorem m_W_insert_t2 (l : Launch) (D : va_G) (x oo : Nat) (fs : List Value) (v1 v2 v3 : Int32) (wc : va_W) (tyc : List (ClassId × FieldType)) (hM : jT_Met l y_J_insert w_J_insert ({ frames := 6, cells := 1, slots := 6, locals := 81 }) (jT_P [.ref x, .int v1, .int v2, .int v3] D jw_cl wc tyc) "java/lang/IndexOutOfBoundsException") : Met l y_W_insert ww_insert ({ frames := 7, cells := 1, slots := 6, locals := 105 }) (jT_WP [.ref x, .int v1, .int v2, .int v3, .ref oo] x fs D wc tyc) (jT_WQ (nI 2)) 1 6 (fun _ => False) := by
  refine jT_MetW (cc := c_W_insert) (maxL := 6) (ret := some .int) (hd := hd_insert) (by decide) rfl ?_
  intro pg0 en0 s m args below meth cd0 s₁ B hml hhd hv
  obtain ⟨rfl, hPx, hP, hK, hst, hnc⟩ := hv
  have hx := B.exec
  have hb := B.bytes
  have hr := B.returns
  have hts := atoms_spec (ws := ww_insert) B.pre
  have ht : ∀ w ∈ jw_tbl, w.before _ s = true := fun w h => hts w (List.mem_cons_of_mem _ h)
  have hown : s.vm.findClass jn_W = some m.cls := findClass_of_methodNamed B.named
  have hlocks := B.notSynchronized
  have hl := lv_entry ([.ref x, .int v1, .int v2, .int v3, .ref oo]) (n := 6) (Nat.le_of_ble_eq_true rfl)
  rw [lg_entry_eq]
  generalize (lg_sl ([.ref x, .int v1, .int v2, .int v3, .ref oo]) ++ List.replicate (6 - (lg_sl ([.ref x, .int v1, .int v2, .int v3, .ref oo])).length) Slot.unset).toArray = ls at hl ⊢
  have hl : lv_has ls 6 [(0, .ref x), (1, .int v1), (2, .int v2), (3, .int v3), (4, .ref oo)] := hl
  refine lv_aload hx hb d_W_insert_0 (lv_at hl 4 rfl) ?_
  refine lv_iconst (v := nI 0) hx hb d_W_insert_2 (by decide) ?_
  refine lv_aload_n hx hb d_W_insert_3 rfl (lv_at hl 0 rfl) ?_
  refine lv_iload_n hx hb d_W_insert_4 rfl (lv_at hl 1 rfl) ?_
  refine lv_iload_n hx hb d_W_insert_5 rfl (lv_at hl 2 rfl) ?_
  refine lv_iload_n hx hb d_W_insert_6 rfl (lv_at hl 3 rfl) ?_
  refine jT_call (X := "java/lang/IndexOutOfBoundsException") (As := [.int v1, .int v2, .int v3]) (rest := [.int (nI 0), .ref oo]) hx hb hml hown ht hM o_J_insert k_W_7 rfl rfl ⟨Nat.le_of_ble_eq_true rfl, Nat.le_of_ble_eq_true rfl⟩ jT_P_bl (jT_P_of hP hK hst (fun _ _ h => h)) (va_recv (q0 := 0) (ci := 5) hK hPx rfl rfl) rfl hl.1 rfl (Nat.le_of_ble_eq_true rfl) d_W_insert_7 ⟨Nat.le_of_ble_eq_true rfl, Nat.le_of_ble_eq_true rfl⟩ [⟨0, 12, 15, 13⟩] ⟨0, 12, 19, 15⟩ [⟨0, 12, 23, 17⟩] (jT_tbl3 hhd) (fun z h => by rw [List.mem_singleton.mp h]; exact ⟨by decide, _, ht _ kW_a, jT_nca hnc 0 rfl⟩) (by decide) (by decide) (ht _ kW_i) (jT_args hst _ _ (List.mem_of_getElem? (i := 8) rfl)) (fun a9 H9 hk9 => ?_)
  refine W.eq (g2 := F0 m 19 ls [.ref a9]) rfl ?_
  refine lv_astore (lv' := [(5, .ref a9), (0, .ref x), (1, .int v1), (2, .int v2), (3, .int v3), (4, .ref oo)]) hx hb d_W_insert_19 hl (by decide) rfl (fun ls hl => ?_)
  refine lv_iconst (v := nI 2) hx hb d_W_insert_21 (by decide) ?_
  exact W.iret (v := nI 2) hx hb hr (fun t9 ht9 _ => ⟨rfl, by rw [ht9]; exact hk9⟩) (fun q h => by cases h) d_W_insert_22

set_option maxHeartbeats 1000000 in
set_option maxRecDepth 100000 in
theorem m_W_insert_t3 (l : Launch) (D : va_G) (x oo : Nat) (fs : List Value) (v1 v2 v3 : Int32) (wc : va_W) (tyc : List (ClassId × FieldType)) (hM : jT_Met l y_J_insert w_J_insert ({ frames := 6, cells := 1, slots := 6, locals := 81 }) (jT_P [.ref x, .int v1, .int v2, .int v3] D jw_cl wc tyc) "java/lang/IllegalStateException") : Met l y_W_insert ww_insert ({ frames := 7, cells := 1, slots := 6, locals := 105 }) (jT_WP [.ref x, .int v1, .int v2, .int v3, .ref oo] x fs D wc tyc) (jT_WQ (nI 3)) 1 6 (fun _ => False) := by
  refine jT_MetW (cc := c_W_insert) (maxL := 6) (ret := some .int) (hd := hd_insert) (by decide) rfl ?_
  intro pg0 en0 s m args below meth cd0 s₁ B hml hhd hv
  obtain ⟨rfl, hPx, hP, hK, hst, hnc⟩ := hv
  have hx := B.exec
  have hb := B.bytes
  have hr := B.returns
  have hts := atoms_spec (ws := ww_insert) B.pre
  have ht : ∀ w ∈ jw_tbl, w.before _ s = true := fun w h => hts w (List.mem_cons_of_mem _ h)
  have hown : s.vm.findClass jn_W = some m.cls := findClass_of_methodNamed B.named
  have hlocks := B.notSynchronized
  have hl := lv_entry ([.ref x, .int v1, .int v2, .int v3, .ref oo]) (n := 6) (Nat.le_of_ble_eq_true rfl)
  rw [lg_entry_eq]
  generalize (lg_sl ([.ref x, .int v1, .int v2, .int v3, .ref oo]) ++ List.replicate (6 - (lg_sl ([.ref x, .int v1, .int v2, .int v3, .ref oo])).length) Slot.unset).toArray = ls at hl ⊢
  have hl : lv_has ls 6 [(0, .ref x), (1, .int v1), (2, .int v2), (3, .int v3), (4, .ref oo)] := hl
  refine lv_aload hx hb d_W_insert_0 (lv_at hl 4 rfl) ?_
  refine lv_iconst (v := nI 0) hx hb d_W_insert_2 (by decide) ?_
  refine lv_aload_n hx hb d_W_insert_3 rfl (lv_at hl 0 rfl) ?_
  refine lv_iload_n hx hb d_W_insert_4 rfl (lv_at hl 1 rfl) ?_
  refine lv_iload_n hx hb d_W_insert_5 rfl (lv_at hl 2 rfl) ?_
  refine lv_iload_n hx hb d_W_insert_6 rfl (lv_at hl 3 rfl) ?_
  refine jT_call (X := "java/lang/IllegalStateException") (As := [.int v1, .int v2, .int v3]) (rest := [.int (nI 0), .ref oo]) hx hb hml hown ht hM o_J_insert k_W_7 rfl rfl ⟨Nat.le_of_ble_eq_true rfl, Nat.le_of_ble_eq_true rfl⟩ jT_P_bl (jT_P_of hP hK hst (fun _ _ h => h)) (va_recv (q0 := 0) (ci := 5) hK hPx rfl rfl) rfl hl.1 rfl (Nat.le_of_ble_eq_true rfl) d_W_insert_7 ⟨Nat.le_of_ble_eq_true rfl, Nat.le_of_ble_eq_true rfl⟩ [⟨0, 12, 15, 13⟩, ⟨0, 12, 19, 15⟩] ⟨0, 12, 23, 17⟩ [] (jT_tbl3 hhd) (fun z h => (List.mem_cons.mp h).elim (fun h => by rw [h]; exact ⟨by decide, _, ht _ kW_a, jT_nca hnc 1 rfl⟩) (fun h => by rw [List.mem_singleton.mp h]; exact ⟨by decide, _, ht _ kW_i, jT_nca hnc 2 rfl⟩)) (by decide) (by decide) (ht _ kW_s) (jT_args hst _ _ (List.mem_of_getElem? (i := 9) rfl)) (fun a9 H9 hk9 => ?_)
  refine W.eq (g2 := F0 m 23 ls [.ref a9]) rfl ?_
  refine lv_astore (lv' := [(5, .ref a9), (0, .ref x), (1, .int v1), (2, .int v2), (3, .int v3), (4, .ref oo)]) hx hb d_W_insert_23 hl (by decide) rfl (fun ls hl => ?_)
  refine lv_iconst (v := nI 3) hx hb d_W_insert_25 (by decide) ?_
  exact W.iret (v := nI 3) hx hb hr (fun t9 ht9 _ => ⟨rfl, by rw [ht9]; exact hk9⟩) (fun q h => by cases h) d_W_insert_26

set_option maxHeartbeats 1000000 in
set_option maxRecDepth 100000 in
theorem m_W_insert_y (l : Launch) (D : va_G) (sz : Nat) (x oo : Nat) (fs : List Value) (v1 v2 v3 : Int32) (wc : va_W) (tyc : List (ClassId × FieldType)) (cJ : ClassId) (f : Nat → Int64) (hx0 : wc[0]? = some (x, .inr (5, fs))) {S : Type} (w1 : S → va_W) (post : Int32 → S → Prop) (rm : Room) (hrc : rm.cells = 0) (hrs : rm.slots = 0) (hrf : rm.frames ≤ 5) (hrl : rm.locals ≤ 110) (hM : ∀ sz, Met l y_J_insert w_J_insert rm (jw_C [.ref x, .int v1, .int v2, .int v3] D jw_cl wc tyc sz) (va_Qi post (jw_B D jw_cl (va_A wc sz) w1) (va_A wc sz)) 0 0 (va_A wc sz)) : Met l y_W_insert ww_insert ({ frames := 6, cells := 0, slots := 0, locals := 134 }) (jw_C [.ref x, .int v1, .int v2, .int v3, .ref oo] D jw_cl ((oo, .inl (cJ, 1, .inr (.inl f))) :: wc) ((cJ, .long) :: tyc) sz) (va_Qi (fun (q : Int32) (u : Int32 × S) => q = nI 0 ∧ post u.1 u.2) (jw_B D jw_cl (va_A ((oo, .inl (cJ, 1, .inr (.inl f))) :: wc) sz) (fun u => (oo, .inl (cJ, 1, .inr (.inl (vp_updL f 0 (u.1).toInt64)))) :: w1 u.2)) (va_A ((oo, .inl (cJ, 1, .inr (.inl f))) :: wc) sz)) 0 0 (va_A ((oo, .inl (cJ, 1, .inr (.inl f))) :: wc) sz) := by
  refine jT_MetW (cc := c_W_insert) (maxL := 6) (ret := some .int) (hd := hd_insert) (by decide) rfl ?_
  intro pg0 en0 s m args below meth cd0 s₁ B hml hhd hv
  obtain ⟨rfl, hsz, hP, hK, hD0⟩ := hv
  have hx := B.exec
  have hb := B.bytes
  have hr := B.returns
  have hts := atoms_spec (ws := ww_insert) B.pre
  have ht : ∀ w ∈ jw_tbl, w.before _ s = true := fun w h => hts w (List.mem_cons_of_mem _ h)
  have hown : s.vm.findClass jn_W = some m.cls := findClass_of_methodNamed B.named
  have hlocks := B.notSynchronized
  subst hsz
  have hD := hD0.self (sz := s.heap.size)
  generalize hAe : va_A ((oo, .inl (cJ, 1, .inr (.inl f))) :: wc) s.heap.size = A at hD ⊢
  have hA : ∀ q : Nat, s.heap.size ≤ q → A q := fun q h => by rw [← hAe]; exact Or.inr h
  have hS : va_S A s.heap s.heap [] := va_S.rf
  have hPc : va_P D jw_cl wc s.heap := hP.by (fun k => k + 1) (fun k q h => h)
  have hKc : va_K D jw_cl tyc s := ⟨hK.1, fun k q h => hK.2 (k + 1) q h⟩
  have hl := lv_entry ([.ref x, .int v1, .int v2, .int v3, .ref oo]) (n := 6) (Nat.le_of_ble_eq_true rfl)
  rw [lg_entry_eq]
  generalize (lg_sl ([.ref x, .int v1, .int v2, .int v3, .ref oo]) ++ List.replicate (6 - (lg_sl ([.ref x, .int v1, .int v2, .int v3, .ref oo])).length) Slot.unset).toArray = ls at hl ⊢
  have hl : lv_has ls 6 [(0, .ref x), (1, .int v1), (2, .int v2), (3, .int v3), (4, .ref oo)] := hl
  refine lv_aload hx hb d_W_insert_0 (lv_at hl 4 rfl) ?_
  refine lv_iconst (v := nI 0) hx hb d_W_insert_2 (by decide) ?_
  refine lv_aload_n hx hb d_W_insert_3 rfl (lv_at hl 0 rfl) ?_
  refine lv_iload_n hx hb d_W_insert_4 rfl (lv_at hl 1 rfl) ?_
  refine lv_iload_n hx hb d_W_insert_5 rfl (lv_at hl 2 rfl) ?_
  refine lv_iload_n hx hb d_W_insert_6 rfl (lv_at hl 3 rfl) ?_
  refine jw_ji (ws := (oo, .inl (cJ, 1, .inr (.inl f))) :: wc) (wc := wc) (wr := [(oo, .inl (cJ, 1, .inr (.inl f)))]) (jw_uV (As := [.int v1, .int v2, .int v3]) (rest := [.int (nI 0), .ref oo]) hx hb hml hown ht (hM _) o_J_insert k_W_7 hrc hrs ⟨by show rm.frames + 1 ≤ 6; omega, by show 8 + (5 + 11) + rm.locals ≤ 134; omega⟩ hPc hKc (va_D.by hD (fun k => k + 1) (fun k q h => h) (fun i j _ _ h => Nat.succ.inj h)) (va_recv (q0 := 0) (ci := 5) hK hPc rfl hx0) rfl hl.1 rfl (Nat.le_of_ble_eq_true rfl) d_W_insert_7 ⟨Nat.zero_le _, Nat.zero_le _⟩) hP hD hS hA ((List.range wc.length).map (· + 1)) [0] jT_hC rfl (by decide) jT_hdis (fun r9 u9 H locs hp9 hP hD hS => ?_)
  refine lv_i2l hx hb d_W_insert_10 rfl ?_
  refine va_last hx hb hK hP hD hS 0 0 rfl rfl (vp_in_nI (by decide) (by decide)) d_W_insert_11 (fun H locs hP hD hS => ?_)
  rw [show (nI 0).toNatClampNeg = 0 from nI_clamp (by omega)] at hP hD
  have hP : va_P D jw_cl ((oo, .inl (cJ, 1, .inr (.inl (vp_updL f 0 (r9).toInt64)))) :: w1 u9) H := hP
  have hD : va_D A ((oo, .inl (cJ, 1, .inr (.inl (vp_updL f 0 (r9).toInt64)))) :: w1 u9) := hD
  refine lv_goto (tgt := 27) hx hb d_W_insert_12 (by decide) ?_
  refine lv_iconst (v := nI 0) hx hb d_W_insert_27 (by decide) ?_
  exact W.iret (v := nI 0) hx hb hr (fun t9 ht9 hW9 => ⟨⟨nI 0, (r9, u9), rfl, ⟨rfl, hp9⟩, by rw [ht9]; exact hP, hD⟩, hS.F ht9⟩) hS.2.2 d_W_insert_28

abbrev hd_erase : List (Nat × Nat × Nat × Nat) := [(0, 10, 13, 13), (0, 10, 17, 15), (0, 10, 21, 17)]
abbrev ww_erase : List Cond := Cond.codeWith y_W_erase c_W_erase 5 (some .int) hd_erase :: jw_tbl
theorem oW_erase : jT_OS y_W_erase c_W_erase 5 (some .int) hd_erase 4 := ⟨jw_in 630 (by decide +kernel) (by decide +kernel), jw_in 33 (by decide +kernel) (by decide +kernel), jw_in 631 (by decide +kernel) (by decide +kernel), by decide, by decide, by decide +kernel⟩
set_option maxHeartbeats 1000000 in
set_option maxRecDepth 100000 in
theorem m_W_erase_t1 (l : Launch) (D : va_G) (x oo : Nat) (fs : List Value) (v1 v2 : Int32) (wc : va_W) (tyc : List (ClassId × FieldType)) (hM : jT_Met l y_J_erase w_J_erase ({ frames := 6, cells := 1, slots := 6, locals := 81 }) (jT_P [.ref x, .int v1, .int v2] D jw_cl wc tyc) "java/lang/IllegalArgumentException") : Met l y_W_erase ww_erase ({ frames := 7, cells := 1, slots := 6, locals := 104 }) (jT_WP [.ref x, .int v1, .int v2, .ref oo] x fs D wc tyc) (jT_WQ (nI 1)) 1 6 (fun _ => False) := by
  refine jT_MetW (cc := c_W_erase) (maxL := 5) (ret := some .int) (hd := hd_erase) (by decide) rfl ?_
  intro pg0 en0 s m args below meth cd0 s₁ B hml hhd hv
  obtain ⟨rfl, hPx, hP, hK, hst, hnc⟩ := hv
  have hx := B.exec
  have hb := B.bytes
  have hr := B.returns
  have hts := atoms_spec (ws := ww_erase) B.pre
  have ht : ∀ w ∈ jw_tbl, w.before _ s = true := fun w h => hts w (List.mem_cons_of_mem _ h)
  have hown : s.vm.findClass jn_W = some m.cls := findClass_of_methodNamed B.named
  have hlocks := B.notSynchronized
  have hl := lv_entry ([.ref x, .int v1, .int v2, .ref oo]) (n := 5) (Nat.le_of_ble_eq_true rfl)
  rw [lg_entry_eq]
  generalize (lg_sl ([.ref x, .int v1, .int v2, .ref oo]) ++ List.replicate (5 - (lg_sl ([.ref x, .int v1, .int v2, .ref oo])).length) Slot.unset).toArray = ls at hl ⊢
  have hl : lv_has ls 5 [(0, .ref x), (1, .int v1), (2, .int v2), (3, .ref oo)] := hl
  refine lv_aload_n hx hb d_W_erase_0 rfl (lv_at hl 3 rfl) ?_
  refine lv_iconst (v := nI 0) hx hb d_W_erase_1 (by decide) ?_
  refine lv_aload_n hx hb d_W_erase_2 rfl (lv_at hl 0 rfl) ?_
  refine lv_iload_n hx hb d_W_erase_3 rfl (lv_at hl 1 rfl) ?_
  refine lv_iload_n hx hb d_W_erase_4 rfl (lv_at hl 2 rfl) ?_
  refine jT_call (X := "java/lang/IllegalArgumentException") (As := [.int v1, .int v2]) (rest := [.int (nI 0), .ref oo]) hx hb hml hown ht hM o_J_erase k_W_19 rfl rfl ⟨Nat.le_of_ble_eq_true rfl, Nat.le_of_ble_eq_true rfl⟩ jT_P_bl (jT_P_of hP hK hst (fun _ _ h => h)) (va_recv (q0 := 0) (ci := 5) hK hPx rfl rfl) rfl hl.1 rfl (Nat.le_of_ble_eq_true rfl) d_W_erase_5 ⟨Nat.le_of_ble_eq_true rfl, Nat.le_of_ble_eq_true rfl⟩ [] ⟨0, 10, 13, 13⟩ [⟨0, 10, 17, 15⟩, ⟨0, 10, 21, 17⟩] (jT_tbl3 hhd) (fun z h => by cases h) (by decide) (by decide) (ht _ kW_a) (jT_args hst _ _ (List.mem_of_getElem? (i := 7) rfl)) (fun a9 H9 hk9 => ?_)
  refine W.eq (g2 := F0 m 13 ls [.ref a9]) rfl ?_
  refine lv_astore (lv' := [(4, .ref a9), (0, .ref x), (1, .int v1), (2, .int v2), (3, .ref oo)]) hx hb d_W_erase_13 hl (by decide) rfl (fun ls hl => ?_)
  refine lv_iconst (v := nI 1) hx hb d_W_erase_15 (by decide) ?_
  exact W.iret (v := nI 1) hx hb hr (fun t9 ht9 _ => ⟨rfl, by rw [ht9]; exact hk9⟩) (fun q h => by cases h) d_W_erase_16

set_option maxHeartbeats 1000000 in
set_option maxRecDepth 100000 in
theorem m_W_erase_t2 (l : Launch) (D : va_G) (x oo : Nat) (fs : List Value) (v1 v2 : Int32) (wc : va_W) (tyc : List (ClassId × FieldType)) (hM : jT_Met l y_J_erase w_J_erase ({ frames := 6, cells := 1, slots := 6, locals := 81 }) (jT_P [.ref x, .int v1, .int v2] D jw_cl wc tyc) "java/lang/IndexOutOfBoundsException") : Met l y_W_erase ww_erase ({ frames := 7, cells := 1, slots := 6, locals := 104 }) (jT_WP [.ref x, .int v1, .int v2, .ref oo] x fs D wc tyc) (jT_WQ (nI 2)) 1 6 (fun _ => False) := by
  refine jT_MetW (cc := c_W_erase) (maxL := 5) (ret := some .int) (hd := hd_erase) (by decide) rfl ?_
  intro pg0 en0 s m args below meth cd0 s₁ B hml hhd hv
  obtain ⟨rfl, hPx, hP, hK, hst, hnc⟩ := hv
  have hx := B.exec
  have hb := B.bytes
  have hr := B.returns
  have hts := atoms_spec (ws := ww_erase) B.pre
  have ht : ∀ w ∈ jw_tbl, w.before _ s = true := fun w h => hts w (List.mem_cons_of_mem _ h)
  have hown : s.vm.findClass jn_W = some m.cls := findClass_of_methodNamed B.named
  have hlocks := B.notSynchronized
  have hl := lv_entry ([.ref x, .int v1, .int v2, .ref oo]) (n := 5) (Nat.le_of_ble_eq_true rfl)
  rw [lg_entry_eq]
  generalize (lg_sl ([.ref x, .int v1, .int v2, .ref oo]) ++ List.replicate (5 - (lg_sl ([.ref x, .int v1, .int v2, .ref oo])).length) Slot.unset).toArray = ls at hl ⊢
  have hl : lv_has ls 5 [(0, .ref x), (1, .int v1), (2, .int v2), (3, .ref oo)] := hl
  refine lv_aload_n hx hb d_W_erase_0 rfl (lv_at hl 3 rfl) ?_
  refine lv_iconst (v := nI 0) hx hb d_W_erase_1 (by decide) ?_
  refine lv_aload_n hx hb d_W_erase_2 rfl (lv_at hl 0 rfl) ?_
  refine lv_iload_n hx hb d_W_erase_3 rfl (lv_at hl 1 rfl) ?_
  refine lv_iload_n hx hb d_W_erase_4 rfl (lv_at hl 2 rfl) ?_
  refine jT_call (X := "java/lang/IndexOutOfBoundsException") (As := [.int v1, .int v2]) (rest := [.int (nI 0), .ref oo]) hx hb hml hown ht hM o_J_erase k_W_19 rfl rfl ⟨Nat.le_of_ble_eq_true rfl, Nat.le_of_ble_eq_true rfl⟩ jT_P_bl (jT_P_of hP hK hst (fun _ _ h => h)) (va_recv (q0 := 0) (ci := 5) hK hPx rfl rfl) rfl hl.1 rfl (Nat.le_of_ble_eq_true rfl) d_W_erase_5 ⟨Nat.le_of_ble_eq_true rfl, Nat.le_of_ble_eq_true rfl⟩ [⟨0, 10, 13, 13⟩] ⟨0, 10, 17, 15⟩ [⟨0, 10, 21, 17⟩] (jT_tbl3 hhd) (fun z h => by rw [List.mem_singleton.mp h]; exact ⟨by decide, _, ht _ kW_a, jT_nca hnc 0 rfl⟩) (by decide) (by decide) (ht _ kW_i) (jT_args hst _ _ (List.mem_of_getElem? (i := 8) rfl)) (fun a9 H9 hk9 => ?_)
  refine W.eq (g2 := F0 m 17 ls [.ref a9]) rfl ?_
  refine lv_astore (lv' := [(4, .ref a9), (0, .ref x), (1, .int v1), (2, .int v2), (3, .ref oo)]) hx hb d_W_erase_17 hl (by decide) rfl (fun ls hl => ?_)
  refine lv_iconst (v := nI 2) hx hb d_W_erase_19 (by decide) ?_
  exact W.iret (v := nI 2) hx hb hr (fun t9 ht9 _ => ⟨rfl, by rw [ht9]; exact hk9⟩) (fun q h => by cases h) d_W_erase_20

set_option maxHeartbeats 1000000 in
set_option maxRecDepth 100000 in
theorem m_W_erase_t3 (l : Launch) (D : va_G) (x oo : Nat) (fs : List Value) (v1 v2 : Int32) (wc : va_W) (tyc : List (ClassId × FieldType)) (hM : jT_Met l y_J_erase w_J_erase ({ frames := 6, cells := 1, slots := 6, locals := 81 }) (jT_P [.ref x, .int v1, .int v2] D jw_cl wc tyc) "java/lang/IllegalStateException") : Met l y_W_erase ww_erase ({ frames := 7, cells := 1, slots := 6, locals := 104 }) (jT_WP [.ref x, .int v1, .int v2, .ref oo] x fs D wc tyc) (jT_WQ (nI 3)) 1 6 (fun _ => False) := by
  refine jT_MetW (cc := c_W_erase) (maxL := 5) (ret := some .int) (hd := hd_erase) (by decide) rfl ?_
  intro pg0 en0 s m args below meth cd0 s₁ B hml hhd hv
  obtain ⟨rfl, hPx, hP, hK, hst, hnc⟩ := hv
  have hx := B.exec
  have hb := B.bytes
  have hr := B.returns
  have hts := atoms_spec (ws := ww_erase) B.pre
  have ht : ∀ w ∈ jw_tbl, w.before _ s = true := fun w h => hts w (List.mem_cons_of_mem _ h)
  have hown : s.vm.findClass jn_W = some m.cls := findClass_of_methodNamed B.named
  have hlocks := B.notSynchronized
  have hl := lv_entry ([.ref x, .int v1, .int v2, .ref oo]) (n := 5) (Nat.le_of_ble_eq_true rfl)
  rw [lg_entry_eq]
  generalize (lg_sl ([.ref x, .int v1, .int v2, .ref oo]) ++ List.replicate (5 - (lg_sl ([.ref x, .int v1, .int v2, .ref oo])).length) Slot.unset).toArray = ls at hl ⊢
  have hl : lv_has ls 5 [(0, .ref x), (1, .int v1), (2, .int v2), (3, .ref oo)] := hl
  refine lv_aload_n hx hb d_W_erase_0 rfl (lv_at hl 3 rfl) ?_
  refine lv_iconst (v := nI 0) hx hb d_W_erase_1 (by decide) ?_
  refine lv_aload_n hx hb d_W_erase_2 rfl (lv_at hl 0 rfl) ?_
  refine lv_iload_n hx hb d_W_erase_3 rfl (lv_at hl 1 rfl) ?_
  refine lv_iload_n hx hb d_W_erase_4 rfl (lv_at hl 2 rfl) ?_
  refine jT_call (X := "java/lang/IllegalStateException") (As := [.int v1, .int v2]) (rest := [.int (nI 0), .ref oo]) hx hb hml hown ht hM o_J_erase k_W_19 rfl rfl ⟨Nat.le_of_ble_eq_true rfl, Nat.le_of_ble_eq_true rfl⟩ jT_P_bl (jT_P_of hP hK hst (fun _ _ h => h)) (va_recv (q0 := 0) (ci := 5) hK hPx rfl rfl) rfl hl.1 rfl (Nat.le_of_ble_eq_true rfl) d_W_erase_5 ⟨Nat.le_of_ble_eq_true rfl, Nat.le_of_ble_eq_true rfl⟩ [⟨0, 10, 13, 13⟩, ⟨0, 10, 17, 15⟩] ⟨0, 10, 21, 17⟩ [] (jT_tbl3 hhd) (fun z h => (List.mem_cons.mp h).elim (fun h => by rw [h]; exact ⟨by decide, _, ht _ kW_a, jT_nca hnc 1 rfl⟩) (fun h => by rw [List.mem_singleton.mp h]; exact ⟨by decide, _, ht _ kW_i, jT_nca hnc 2 rfl⟩)) (by decide) (by decide) (ht _ kW_s) (jT_args hst _ _ (List.mem_of_getElem? (i := 9) rfl)) (fun a9 H9 hk9 => ?_)
  refine W.eq (g2 := F0 m 21 ls [.ref a9]) rfl ?_
  refine lv_astore (lv' := [(4, .ref a9), (0, .ref x), (1, .int v1), (2, .int v2), (3, .ref oo)]) hx hb d_W_erase_21 hl (by decide) rfl (fun ls hl => ?_)
  refine lv_iconst (v := nI 3) hx hb d_W_erase_23 (by decide) ?_
  exact W.iret (v := nI 3) hx hb hr (fun t9 ht9 _ => ⟨rfl, by rw [ht9]; exact hk9⟩) (fun q h => by cases h) d_W_erase_24

set_option maxHeartbeats 1000000 in
set_option maxRecDepth 100000 in
theorem m_W_erase_y (l : Launch) (D : va_G) (sz : Nat) (x oo : Nat) (fs : List Value) (v1 v2 : Int32) (wc : va_W) (tyc : List (ClassId × FieldType)) (cJ : ClassId) (f : Nat → Int64) (hx0 : wc[0]? = some (x, .inr (5, fs))) {S : Type} (w1 : S → va_W) (post : Int32 → S → Prop) (rm : Room) (hrc : rm.cells = 0) (hrs : rm.slots = 0) (hrf : rm.frames ≤ 5) (hrl : rm.locals ≤ 110) (hM : ∀ sz, Met l y_J_erase w_J_erase rm (jw_C [.ref x, .int v1, .int v2] D jw_cl wc tyc sz) (va_Qi post (jw_B D jw_cl (va_A wc sz) w1) (va_A wc sz)) 0 0 (va_A wc sz)) : Met l y_W_erase ww_erase ({ frames := 6, cells := 0, slots := 0, locals := 133 }) (jw_C [.ref x, .int v1, .int v2, .ref oo] D jw_cl ((oo, .inl (cJ, 1, .inr (.inl f))) :: wc) ((cJ, .long) :: tyc) sz) (va_Qi (fun (q : Int32) (u : Int32 × S) => q = nI 0 ∧ post u.1 u.2) (jw_B D jw_cl (va_A ((oo, .inl (cJ, 1, .inr (.inl f))) :: wc) sz) (fun u => (oo, .inl (cJ, 1, .inr (.inl (vp_updL f 0 (u.1).toInt64)))) :: w1 u.2)) (va_A ((oo, .inl (cJ, 1, .inr (.inl f))) :: wc) sz)) 0 0 (va_A ((oo, .inl (cJ, 1, .inr (.inl f))) :: wc) sz) := by
  refine jT_MetW (cc := c_W_erase) (maxL := 5) (ret := some .int) (hd := hd_erase) (by decide) rfl ?_
  intro pg0 en0 s m args below meth cd0 s₁ B hml hhd hv
  obtain ⟨rfl, hsz, hP, hK, hD0⟩ := hv
  have hx := B.exec
  have hb := B.bytes
  have hr := B.returns
  have hts := atoms_spec (ws := ww_erase) B.pre
  have ht : ∀ w ∈ jw_tbl, w.before _ s = true := fun w h => hts w (List.mem_cons_of_mem _ h)
  have hown : s.vm.findClass jn_W = some m.cls := findClass_of_methodNamed B.named
  have hlocks := B.notSynchronized
  subst hsz
  have hD := hD0.self (sz := s.heap.size)
  generalize hAe : va_A ((oo, .inl (cJ, 1, .inr (.inl f))) :: wc) s.heap.size = A at hD ⊢
  have hA : ∀ q : Nat, s.heap.size ≤ q → A q := fun q h => by rw [← hAe]; exact Or.inr h
  have hS : va_S A s.heap s.heap [] := va_S.rf
  have hPc : va_P D jw_cl wc s.heap := hP.by (fun k => k + 1) (fun k q h => h)
  have hKc : va_K D jw_cl tyc s := ⟨hK.1, fun k q h => hK.2 (k + 1) q h⟩
  have hl := lv_entry ([.ref x, .int v1, .int v2, .ref oo]) (n := 5) (Nat.le_of_ble_eq_true rfl)
  rw [lg_entry_eq]
  generalize (lg_sl ([.ref x, .int v1, .int v2, .ref oo]) ++ List.replicate (5 - (lg_sl ([.ref x, .int v1, .int v2, .ref oo])).length) Slot.unset).toArray = ls at hl ⊢
  have hl : lv_has ls 5 [(0, .ref x), (1, .int v1), (2, .int v2), (3, .ref oo)] := hl
  refine lv_aload_n hx hb d_W_erase_0 rfl (lv_at hl 3 rfl) ?_
  refine lv_iconst (v := nI 0) hx hb d_W_erase_1 (by decide) ?_
  refine lv_aload_n hx hb d_W_erase_2 rfl (lv_at hl 0 rfl) ?_
  refine lv_iload_n hx hb d_W_erase_3 rfl (lv_at hl 1 rfl) ?_
  refine lv_iload_n hx hb d_W_erase_4 rfl (lv_at hl 2 rfl) ?_
  refine jw_ji (ws := (oo, .inl (cJ, 1, .inr (.inl f))) :: wc) (wc := wc) (wr := [(oo, .inl (cJ, 1, .inr (.inl f)))]) (jw_uV (As := [.int v1, .int v2]) (rest := [.int (nI 0), .ref oo]) hx hb hml hown ht (hM _) o_J_erase k_W_19 hrc hrs ⟨by show rm.frames + 1 ≤ 6; omega, by show 8 + (4 + 11) + rm.locals ≤ 133; omega⟩ hPc hKc (va_D.by hD (fun k => k + 1) (fun k q h => h) (fun i j _ _ h => Nat.succ.inj h)) (va_recv (q0 := 0) (ci := 5) hK hPc rfl hx0) rfl hl.1 rfl (Nat.le_of_ble_eq_true rfl) d_W_erase_5 ⟨Nat.zero_le _, Nat.zero_le _⟩) hP hD hS hA ((List.range wc.length).map (· + 1)) [0] jT_hC rfl (by decide) jT_hdis (fun r9 u9 H locs hp9 hP hD hS => ?_)
  refine lv_i2l hx hb d_W_erase_8 rfl ?_
  refine va_last hx hb hK hP hD hS 0 0 rfl rfl (vp_in_nI (by decide) (by decide)) d_W_erase_9 (fun H locs hP hD hS => ?_)
  rw [show (nI 0).toNatClampNeg = 0 from nI_clamp (by omega)] at hP hD
  have hP : va_P D jw_cl ((oo, .inl (cJ, 1, .inr (.inl (vp_updL f 0 (r9).toInt64)))) :: w1 u9) H := hP
  have hD : va_D A ((oo, .inl (cJ, 1, .inr (.inl (vp_updL f 0 (r9).toInt64)))) :: w1 u9) := hD
  refine lv_goto (tgt := 25) hx hb d_W_erase_10 (by decide) ?_
  refine lv_iconst (v := nI 0) hx hb d_W_erase_25 (by decide) ?_
  exact W.iret (v := nI 0) hx hb hr (fun t9 ht9 hW9 => ⟨⟨nI 0, (r9, u9), rfl, ⟨rfl, hp9⟩, by rw [ht9]; exact hP, hD⟩, hS.F ht9⟩) hS.2.2 d_W_erase_26

abbrev hd_undo : List (Nat × Nat × Nat × Nat) := [(0, 9, 12, 13), (0, 9, 15, 27), (0, 9, 18, 17)]
abbrev ww_undo : List Cond := Cond.codeWith y_W_undo c_W_undo 4 (some .int) hd_undo :: jw_tbl
theorem oW_undo : jT_OS y_W_undo c_W_undo 4 (some .int) hd_undo 3 := ⟨jw_in 639 (by decide +kernel) (by decide +kernel), jw_in 33 (by decide +kernel) (by decide +kernel), jw_in 640 (by decide +kernel) (by decide +kernel), by decide, by decide, by decide +kernel⟩
set_option maxHeartbeats 1000000 in
set_option maxRecDepth 100000 in
theorem m_W_undo_t1 (l : Launch) (D : va_G) (x oo : Nat) (fs : List Value) (v1 : Int32) (wc : va_W) (tyc : List (ClassId × FieldType)) (hM : jT_Met l y_J_undo w_J_undo ({ frames := 6, cells := 1, slots := 6, locals := 81 }) (jT_P [.ref x, .int v1] D jw_cl wc tyc) "java/lang/IllegalArgumentException") : Met l y_W_undo ww_undo ({ frames := 7, cells := 1, slots := 6, locals := 105 }) (jT_WP [.ref x, .int v1, .ref oo] x fs D wc tyc) (jT_WQ (nI 1)) 1 6 (fun _ => False) := by
  refine jT_MetW (cc := c_W_undo) (maxL := 4) (ret := some .int) (hd := hd_undo) (by decide) rfl ?_
  intro pg0 en0 s m args below meth cd0 s₁ B hml hhd hv
  obtain ⟨rfl, hPx, hP, hK, hst, hnc⟩ := hv
  have hx := B.exec
  have hb := B.bytes
  have hr := B.returns
  have hts := atoms_spec (ws := ww_undo) B.pre
  have ht : ∀ w ∈ jw_tbl, w.before _ s = true := fun w h => hts w (List.mem_cons_of_mem _ h)
  have hown : s.vm.findClass jn_W = some m.cls := findClass_of_methodNamed B.named
  have hlocks := B.notSynchronized
  have hl := lv_entry ([.ref x, .int v1, .ref oo]) (n := 4) (Nat.le_of_ble_eq_true rfl)
  rw [lg_entry_eq]
  generalize (lg_sl ([.ref x, .int v1, .ref oo]) ++ List.replicate (4 - (lg_sl ([.ref x, .int v1, .ref oo])).length) Slot.unset).toArray = ls at hl ⊢
  have hl : lv_has ls 4 [(0, .ref x), (1, .int v1), (2, .ref oo)] := hl
  refine lv_aload_n hx hb d_W_undo_0 rfl (lv_at hl 2 rfl) ?_
  refine lv_iconst (v := nI 0) hx hb d_W_undo_1 (by decide) ?_
  refine lv_aload_n hx hb d_W_undo_2 rfl (lv_at hl 0 rfl) ?_
  refine lv_iload_n hx hb d_W_undo_3 rfl (lv_at hl 1 rfl) ?_
  refine jT_call (X := "java/lang/IllegalArgumentException") (As := [.int v1]) (rest := [.int (nI 0), .ref oo]) hx hb hml hown ht hM o_J_undo k_W_23 rfl rfl ⟨Nat.le_of_ble_eq_true rfl, Nat.le_of_ble_eq_true rfl⟩ jT_P_bl (jT_P_of hP hK hst (fun _ _ h => h)) (va_recv (q0 := 0) (ci := 5) hK hPx rfl rfl) rfl hl.1 rfl (Nat.le_of_ble_eq_true rfl) d_W_undo_4 ⟨Nat.le_of_ble_eq_true rfl, Nat.le_of_ble_eq_true rfl⟩ [] ⟨0, 9, 12, 13⟩ [⟨0, 9, 15, 27⟩, ⟨0, 9, 18, 17⟩] (jT_tbl3 hhd) (fun z h => by cases h) (by decide) (by decide) (ht _ kW_a) (jT_args hst _ _ (List.mem_of_getElem? (i := 7) rfl)) (fun a9 H9 hk9 => ?_)
  refine W.eq (g2 := F0 m 12 ls [.ref a9]) rfl ?_
  refine lv_astore_n (lv' := [(3, .ref a9), (0, .ref x), (1, .int v1), (2, .ref oo)]) hx hb d_W_undo_12 rfl hl (by decide) rfl (fun ls hl => ?_)
  refine lv_iconst (v := nI 1) hx hb d_W_undo_13 (by decide) ?_
  exact W.iret (v := nI 1) hx hb hr (fun t9 ht9 _ => ⟨rfl, by rw [ht9]; exact hk9⟩) (fun q h => by cases h) d_W_undo_14

set_option maxHeartbeats 1000000 in
set_option maxRecDepth 100000 in
theorem m_W_undo_t2 (l : Launch) (D : va_G) (x oo : Nat) (fs : List Value) (v1 : Int32) (wc : va_W) (tyc : List (ClassId × FieldType)) (hM : jT_Met l y_J_undo w_J_undo ({ frames := 6, cells := 1, slots := 6, locals := 81 }) (jT_P [.ref x, .int v1] D jw_cl wc tyc) "java/util/NoSuchElementException") : Met l y_W_undo ww_undo ({ frames := 7, cells := 1, slots := 6, locals := 105 }) (jT_WP [.ref x, .int v1, .ref oo] x fs D wc tyc) (jT_WQ (nI 2)) 1 6 (fun _ => False) := by
  refine jT_MetW (cc := c_W_undo) (maxL := 4) (ret := some .int) (hd := hd_undo) (by decide) rfl ?_
  intro pg0 en0 s m args below meth cd0 s₁ B hml hhd hv
  obtain ⟨rfl, hPx, hP, hK, hst, hnc⟩ := hv
  have hx := B.exec
  have hb := B.bytes
  have hr := B.returns
  have hts := atoms_spec (ws := ww_undo) B.pre
  have ht : ∀ w ∈ jw_tbl, w.before _ s = true := fun w h => hts w (List.mem_cons_of_mem _ h)
  have hown : s.vm.findClass jn_W = some m.cls := findClass_of_methodNamed B.named
  have hlocks := B.notSynchronized
  have hl := lv_entry ([.ref x, .int v1, .ref oo]) (n := 4) (Nat.le_of_ble_eq_true rfl)
  rw [lg_entry_eq]
  generalize (lg_sl ([.ref x, .int v1, .ref oo]) ++ List.replicate (4 - (lg_sl ([.ref x, .int v1, .ref oo])).length) Slot.unset).toArray = ls at hl ⊢
  have hl : lv_has ls 4 [(0, .ref x), (1, .int v1), (2, .ref oo)] := hl
  refine lv_aload_n hx hb d_W_undo_0 rfl (lv_at hl 2 rfl) ?_
  refine lv_iconst (v := nI 0) hx hb d_W_undo_1 (by decide) ?_
  refine lv_aload_n hx hb d_W_undo_2 rfl (lv_at hl 0 rfl) ?_
  refine lv_iload_n hx hb d_W_undo_3 rfl (lv_at hl 1 rfl) ?_
  refine jT_call (X := "java/util/NoSuchElementException") (As := [.int v1]) (rest := [.int (nI 0), .ref oo]) hx hb hml hown ht hM o_J_undo k_W_23 rfl rfl ⟨Nat.le_of_ble_eq_true rfl, Nat.le_of_ble_eq_true rfl⟩ jT_P_bl (jT_P_of hP hK hst (fun _ _ h => h)) (va_recv (q0 := 0) (ci := 5) hK hPx rfl rfl) rfl hl.1 rfl (Nat.le_of_ble_eq_true rfl) d_W_undo_4 ⟨Nat.le_of_ble_eq_true rfl, Nat.le_of_ble_eq_true rfl⟩ [⟨0, 9, 12, 13⟩] ⟨0, 9, 15, 27⟩ [⟨0, 9, 18, 17⟩] (jT_tbl3 hhd) (fun z h => by rw [List.mem_singleton.mp h]; exact ⟨by decide, _, ht _ kW_a, jT_nca hnc 3 rfl⟩) (by decide) (by decide) (ht _ kW_n) (jT_args hst _ _ (List.mem_of_getElem? (i := 10) rfl)) (fun a9 H9 hk9 => ?_)
  refine W.eq (g2 := F0 m 15 ls [.ref a9]) rfl ?_
  refine lv_astore_n (lv' := [(3, .ref a9), (0, .ref x), (1, .int v1), (2, .ref oo)]) hx hb d_W_undo_15 rfl hl (by decide) rfl (fun ls hl => ?_)
  refine lv_iconst (v := nI 2) hx hb d_W_undo_16 (by decide) ?_
  exact W.iret (v := nI 2) hx hb hr (fun t9 ht9 _ => ⟨rfl, by rw [ht9]; exact hk9⟩) (fun q h => by cases h) d_W_undo_17

set_option maxHeartbeats 1000000 in
set_option maxRecDepth 100000 in
theorem m_W_undo_t3 (l : Launch) (D : va_G) (x oo : Nat) (fs : List Value) (v1 : Int32) (wc : va_W) (tyc : List (ClassId × FieldType)) (hM : jT_Met l y_J_undo w_J_undo ({ frames := 6, cells := 1, slots := 6, locals := 81 }) (jT_P [.ref x, .int v1] D jw_cl wc tyc) "java/lang/IllegalStateException") : Met l y_W_undo ww_undo ({ frames := 7, cells := 1, slots := 6, locals := 105 }) (jT_WP [.ref x, .int v1, .ref oo] x fs D wc tyc) (jT_WQ (nI 3)) 1 6 (fun _ => False) := by
  refine jT_MetW (cc := c_W_undo) (maxL := 4) (ret := some .int) (hd := hd_undo) (by decide) rfl ?_
  intro pg0 en0 s m args below meth cd0 s₁ B hml hhd hv
  obtain ⟨rfl, hPx, hP, hK, hst, hnc⟩ := hv
  have hx := B.exec
  have hb := B.bytes
  have hr := B.returns
  have hts := atoms_spec (ws := ww_undo) B.pre
  have ht : ∀ w ∈ jw_tbl, w.before _ s = true := fun w h => hts w (List.mem_cons_of_mem _ h)
  have hown : s.vm.findClass jn_W = some m.cls := findClass_of_methodNamed B.named
  have hlocks := B.notSynchronized
  have hl := lv_entry ([.ref x, .int v1, .ref oo]) (n := 4) (Nat.le_of_ble_eq_true rfl)
  rw [lg_entry_eq]
  generalize (lg_sl ([.ref x, .int v1, .ref oo]) ++ List.replicate (4 - (lg_sl ([.ref x, .int v1, .ref oo])).length) Slot.unset).toArray = ls at hl ⊢
  have hl : lv_has ls 4 [(0, .ref x), (1, .int v1), (2, .ref oo)] := hl
  refine lv_aload_n hx hb d_W_undo_0 rfl (lv_at hl 2 rfl) ?_
  refine lv_iconst (v := nI 0) hx hb d_W_undo_1 (by decide) ?_
  refine lv_aload_n hx hb d_W_undo_2 rfl (lv_at hl 0 rfl) ?_
  refine lv_iload_n hx hb d_W_undo_3 rfl (lv_at hl 1 rfl) ?_
  refine jT_call (X := "java/lang/IllegalStateException") (As := [.int v1]) (rest := [.int (nI 0), .ref oo]) hx hb hml hown ht hM o_J_undo k_W_23 rfl rfl ⟨Nat.le_of_ble_eq_true rfl, Nat.le_of_ble_eq_true rfl⟩ jT_P_bl (jT_P_of hP hK hst (fun _ _ h => h)) (va_recv (q0 := 0) (ci := 5) hK hPx rfl rfl) rfl hl.1 rfl (Nat.le_of_ble_eq_true rfl) d_W_undo_4 ⟨Nat.le_of_ble_eq_true rfl, Nat.le_of_ble_eq_true rfl⟩ [⟨0, 9, 12, 13⟩, ⟨0, 9, 15, 27⟩] ⟨0, 9, 18, 17⟩ [] (jT_tbl3 hhd) (fun z h => (List.mem_cons.mp h).elim (fun h => by rw [h]; exact ⟨by decide, _, ht _ kW_a, jT_nca hnc 1 rfl⟩) (fun h => by rw [List.mem_singleton.mp h]; exact ⟨by decide, _, ht _ kW_n, jT_nca hnc 4 rfl⟩)) (by decide) (by decide) (ht _ kW_s) (jT_args hst _ _ (List.mem_of_getElem? (i := 9) rfl)) (fun a9 H9 hk9 => ?_)
  refine W.eq (g2 := F0 m 18 ls [.ref a9]) rfl ?_
  refine lv_astore_n (lv' := [(3, .ref a9), (0, .ref x), (1, .int v1), (2, .ref oo)]) hx hb d_W_undo_18 rfl hl (by decide) rfl (fun ls hl => ?_)
  refine lv_iconst (v := nI 3) hx hb d_W_undo_19 (by decide) ?_
  exact W.iret (v := nI 3) hx hb hr (fun t9 ht9 _ => ⟨rfl, by rw [ht9]; exact hk9⟩) (fun q h => by cases h) d_W_undo_20

set_option maxHeartbeats 1000000 in
set_option maxRecDepth 100000 in
theorem m_W_undo_y (l : Launch) (D : va_G) (sz : Nat) (x oo : Nat) (fs : List Value) (v1 : Int32) (wc : va_W) (tyc : List (ClassId × FieldType)) (cJ : ClassId) (f : Nat → Int64) (hx0 : wc[0]? = some (x, .inr (5, fs))) {S : Type} (w1 : S → va_W) (post : Int32 → S → Prop) (rm : Room) (hrc : rm.cells = 0) (hrs : rm.slots = 0) (hrf : rm.frames ≤ 5) (hrl : rm.locals ≤ 110) (hM : ∀ sz, Met l y_J_undo w_J_undo rm (jw_C [.ref x, .int v1] D jw_cl wc tyc sz) (va_Qi post (jw_B D jw_cl (va_A wc sz) w1) (va_A wc sz)) 0 0 (va_A wc sz)) : Met l y_W_undo ww_undo ({ frames := 6, cells := 0, slots := 0, locals := 134 }) (jw_C [.ref x, .int v1, .ref oo] D jw_cl ((oo, .inl (cJ, 1, .inr (.inl f))) :: wc) ((cJ, .long) :: tyc) sz) (va_Qi (fun (q : Int32) (u : Int32 × S) => q = nI 0 ∧ post u.1 u.2) (jw_B D jw_cl (va_A ((oo, .inl (cJ, 1, .inr (.inl f))) :: wc) sz) (fun u => (oo, .inl (cJ, 1, .inr (.inl (vp_updL f 0 (u.1).toInt64)))) :: w1 u.2)) (va_A ((oo, .inl (cJ, 1, .inr (.inl f))) :: wc) sz)) 0 0 (va_A ((oo, .inl (cJ, 1, .inr (.inl f))) :: wc) sz) := by
  refine jT_MetW (cc := c_W_undo) (maxL := 4) (ret := some .int) (hd := hd_undo) (by decide) rfl ?_
  intro pg0 en0 s m args below meth cd0 s₁ B hml hhd hv
  obtain ⟨rfl, hsz, hP, hK, hD0⟩ := hv
  have hx := B.exec
  have hb := B.bytes
  have hr := B.returns
  have hts := atoms_spec (ws := ww_undo) B.pre
  have ht : ∀ w ∈ jw_tbl, w.before _ s = true := fun w h => hts w (List.mem_cons_of_mem _ h)
  have hown : s.vm.findClass jn_W = some m.cls := findClass_of_methodNamed B.named
  have hlocks := B.notSynchronized
  subst hsz
  have hD := hD0.self (sz := s.heap.size)
  generalize hAe : va_A ((oo, .inl (cJ, 1, .inr (.inl f))) :: wc) s.heap.size = A at hD ⊢
  have hA : ∀ q : Nat, s.heap.size ≤ q → A q := fun q h => by rw [← hAe]; exact Or.inr h
  have hS : va_S A s.heap s.heap [] := va_S.rf
  have hPc : va_P D jw_cl wc s.heap := hP.by (fun k => k + 1) (fun k q h => h)
  have hKc : va_K D jw_cl tyc s := ⟨hK.1, fun k q h => hK.2 (k + 1) q h⟩
  have hl := lv_entry ([.ref x, .int v1, .ref oo]) (n := 4) (Nat.le_of_ble_eq_true rfl)
  rw [lg_entry_eq]
  generalize (lg_sl ([.ref x, .int v1, .ref oo]) ++ List.replicate (4 - (lg_sl ([.ref x, .int v1, .ref oo])).length) Slot.unset).toArray = ls at hl ⊢
  have hl : lv_has ls 4 [(0, .ref x), (1, .int v1), (2, .ref oo)] := hl
  refine lv_aload_n hx hb d_W_undo_0 rfl (lv_at hl 2 rfl) ?_
  refine lv_iconst (v := nI 0) hx hb d_W_undo_1 (by decide) ?_
  refine lv_aload_n hx hb d_W_undo_2 rfl (lv_at hl 0 rfl) ?_
  refine lv_iload_n hx hb d_W_undo_3 rfl (lv_at hl 1 rfl) ?_
  refine jw_ji (ws := (oo, .inl (cJ, 1, .inr (.inl f))) :: wc) (wc := wc) (wr := [(oo, .inl (cJ, 1, .inr (.inl f)))]) (jw_uV (As := [.int v1]) (rest := [.int (nI 0), .ref oo]) hx hb hml hown ht (hM _) o_J_undo k_W_23 hrc hrs ⟨by show rm.frames + 1 ≤ 6; omega, by show 8 + (5 + 11) + rm.locals ≤ 134; omega⟩ hPc hKc (va_D.by hD (fun k => k + 1) (fun k q h => h) (fun i j _ _ h => Nat.succ.inj h)) (va_recv (q0 := 0) (ci := 5) hK hPc rfl hx0) rfl hl.1 rfl (Nat.le_of_ble_eq_true rfl) d_W_undo_4 ⟨Nat.zero_le _, Nat.zero_le _⟩) hP hD hS hA ((List.range wc.length).map (· + 1)) [0] jT_hC rfl (by decide) jT_hdis (fun r9 u9 H locs hp9 hP hD hS => ?_)
  refine lv_i2l hx hb d_W_undo_7 rfl ?_
  refine va_last hx hb hK hP hD hS 0 0 rfl rfl (vp_in_nI (by decide) (by decide)) d_W_undo_8 (fun H locs hP hD hS => ?_)
  rw [show (nI 0).toNatClampNeg = 0 from nI_clamp (by omega)] at hP hD
  have hP : va_P D jw_cl ((oo, .inl (cJ, 1, .inr (.inl (vp_updL f 0 (r9).toInt64)))) :: w1 u9) H := hP
  have hD : va_D A ((oo, .inl (cJ, 1, .inr (.inl (vp_updL f 0 (r9).toInt64)))) :: w1 u9) := hD
  refine lv_goto (tgt := 21) hx hb d_W_undo_9 (by decide) ?_
  refine lv_iconst (v := nI 0) hx hb d_W_undo_21 (by decide) ?_
  exact W.iret (v := nI 0) hx hb hr (fun t9 ht9 hW9 => ⟨⟨nI 0, (r9, u9), rfl, ⟨rfl, hp9⟩, by rw [ht9]; exact hP, hD⟩, hS.F ht9⟩) hS.2.2 d_W_undo_22

abbrev hd_character : List (Nat × Nat × Nat × Nat) := [(0, 10, 13, 13), (0, 10, 17, 17), (0, 10, 21, 15)]
abbrev ww_character : List Cond := Cond.codeWith y_W_character c_W_character 5 (some .int) hd_character :: jw_tbl
theorem oW_character : jT_OS y_W_character c_W_character 5 (some .int) hd_character 4 := ⟨jw_in 679 (by decide +kernel) (by decide +kernel), jw_in 33 (by decide +kernel) (by decide +kernel), jw_in 680 (by decide +kernel) (by decide +kernel), by decide, by decide, by decide +kernel⟩
set_option maxHeartbeats 1000000 in
set_option maxRecDepth 100000 in
theorem m_W_character_t1 (l : Launch) (D : va_G) (x oo : Nat) (fs : List Value) (v1 v2 : Int32) (wc : va_W) (tyc : List (ClassId × FieldType)) (hM : jT_Met l y_J_character w_J_character ({ frames := 6, cells := 1, slots := 6, locals := 81 }) (jT_P [.ref x, .int v1, .int v2] D jw_cl wc tyc) "java/lang/IllegalArgumentException") : Met l y_W_character ww_character ({ frames := 7, cells := 1, slots := 6, locals := 104 }) (jT_WP [.ref x, .int v1, .int v2, .ref oo] x fs D wc tyc) (jT_WQ (nI 1)) 1 6 (fun _ => False) := by
  refine jT_MetW (cc := c_W_character) (maxL := 5) (ret := some .int) (hd := hd_character) (by decide) rfl ?_
  intro pg0 en0 s m args below meth cd0 s₁ B hml hhd hv
  obtain ⟨rfl, hPx, hP, hK, hst, hnc⟩ := hv
  have hx := B.exec
  have hb := B.bytes
  have hr := B.returns
  have hts := atoms_spec (ws := ww_character) B.pre
  have ht : ∀ w ∈ jw_tbl, w.before _ s = true := fun w h => hts w (List.mem_cons_of_mem _ h)
  have hown : s.vm.findClass jn_W = some m.cls := findClass_of_methodNamed B.named
  have hlocks := B.notSynchronized
  have hl := lv_entry ([.ref x, .int v1, .int v2, .ref oo]) (n := 5) (Nat.le_of_ble_eq_true rfl)
  rw [lg_entry_eq]
  generalize (lg_sl ([.ref x, .int v1, .int v2, .ref oo]) ++ List.replicate (5 - (lg_sl ([.ref x, .int v1, .int v2, .ref oo])).length) Slot.unset).toArray = ls at hl ⊢
  have hl : lv_has ls 5 [(0, .ref x), (1, .int v1), (2, .int v2), (3, .ref oo)] := hl
  refine lv_aload_n hx hb d_W_character_0 rfl (lv_at hl 3 rfl) ?_
  refine lv_iconst (v := nI 0) hx hb d_W_character_1 (by decide) ?_
  refine lv_aload_n hx hb d_W_character_2 rfl (lv_at hl 0 rfl) ?_
  refine lv_iload_n hx hb d_W_character_3 rfl (lv_at hl 1 rfl) ?_
  refine lv_iload_n hx hb d_W_character_4 rfl (lv_at hl 2 rfl) ?_
  refine jT_call (X := "java/lang/IllegalArgumentException") (As := [.int v1, .int v2]) (rest := [.int (nI 0), .ref oo]) hx hb hml hown ht hM o_J_character k_W_29 rfl rfl ⟨Nat.le_of_ble_eq_true rfl, Nat.le_of_ble_eq_true rfl⟩ jT_P_bl (jT_P_of hP hK hst (fun _ _ h => h)) (va_recv (q0 := 0) (ci := 5) hK hPx rfl rfl) rfl hl.1 rfl (Nat.le_of_ble_eq_true rfl) d_W_character_5 ⟨Nat.le_of_ble_eq_true rfl, Nat.le_of_ble_eq_true rfl⟩ [] ⟨0, 10, 13, 13⟩ [⟨0, 10, 17, 17⟩, ⟨0, 10, 21, 15⟩] (jT_tbl3 hhd) (fun z h => by cases h) (by decide) (by decide) (ht _ kW_a) (jT_args hst _ _ (List.mem_of_getElem? (i := 7) rfl)) (fun a9 H9 hk9 => ?_)
  refine W.eq (g2 := F0 m 13 ls [.ref a9]) rfl ?_
  refine lv_astore (lv' := [(4, .ref a9), (0, .ref x), (1, .int v1), (2, .int v2), (3, .ref oo)]) hx hb d_W_character_13 hl (by decide) rfl (fun ls hl => ?_)
  refine lv_iconst (v := nI 1) hx hb d_W_character_15 (by decide) ?_
  exact W.iret (v := nI 1) hx hb hr (fun t9 ht9 _ => ⟨rfl, by rw [ht9]; exact hk9⟩) (fun q h => by cases h) d_W_character_16

set_option maxHeartbeats 1000000 in
set_option maxRecDepth 100000 in
theorem m_W_character_t2 (l : Launch) (D : va_G) (x oo : Nat) (fs : List Value) (v1 v2 : Int32) (wc : va_W) (tyc : List (ClassId × FieldType)) (hM : jT_Met l y_J_character w_J_character ({ frames := 6, cells := 1, slots := 6, locals := 81 }) (jT_P [.ref x, .int v1, .int v2] D jw_cl wc tyc) "java/lang/IllegalStateException") : Met l y_W_character ww_character ({ frames := 7, cells := 1, slots := 6, locals := 104 }) (jT_WP [.ref x, .int v1, .int v2, .ref oo] x fs D wc tyc) (jT_WQ (nI 2)) 1 6 (fun _ => False) := by
  refine jT_MetW (cc := c_W_character) (maxL := 5) (ret := some .int) (hd := hd_character) (by decide) rfl ?_
  intro pg0 en0 s m args below meth cd0 s₁ B hml hhd hv
  obtain ⟨rfl, hPx, hP, hK, hst, hnc⟩ := hv
  have hx := B.exec
  have hb := B.bytes
  have hr := B.returns
  have hts := atoms_spec (ws := ww_character) B.pre
  have ht : ∀ w ∈ jw_tbl, w.before _ s = true := fun w h => hts w (List.mem_cons_of_mem _ h)
  have hown : s.vm.findClass jn_W = some m.cls := findClass_of_methodNamed B.named
  have hlocks := B.notSynchronized
  have hl := lv_entry ([.ref x, .int v1, .int v2, .ref oo]) (n := 5) (Nat.le_of_ble_eq_true rfl)
  rw [lg_entry_eq]
  generalize (lg_sl ([.ref x, .int v1, .int v2, .ref oo]) ++ List.replicate (5 - (lg_sl ([.ref x, .int v1, .int v2, .ref oo])).length) Slot.unset).toArray = ls at hl ⊢
  have hl : lv_has ls 5 [(0, .ref x), (1, .int v1), (2, .int v2), (3, .ref oo)] := hl
  refine lv_aload_n hx hb d_W_character_0 rfl (lv_at hl 3 rfl) ?_
  refine lv_iconst (v := nI 0) hx hb d_W_character_1 (by decide) ?_
  refine lv_aload_n hx hb d_W_character_2 rfl (lv_at hl 0 rfl) ?_
  refine lv_iload_n hx hb d_W_character_3 rfl (lv_at hl 1 rfl) ?_
  refine lv_iload_n hx hb d_W_character_4 rfl (lv_at hl 2 rfl) ?_
  refine jT_call (X := "java/lang/IllegalStateException") (As := [.int v1, .int v2]) (rest := [.int (nI 0), .ref oo]) hx hb hml hown ht hM o_J_character k_W_29 rfl rfl ⟨Nat.le_of_ble_eq_true rfl, Nat.le_of_ble_eq_true rfl⟩ jT_P_bl (jT_P_of hP hK hst (fun _ _ h => h)) (va_recv (q0 := 0) (ci := 5) hK hPx rfl rfl) rfl hl.1 rfl (Nat.le_of_ble_eq_true rfl) d_W_character_5 ⟨Nat.le_of_ble_eq_true rfl, Nat.le_of_ble_eq_true rfl⟩ [⟨0, 10, 13, 13⟩] ⟨0, 10, 17, 17⟩ [⟨0, 10, 21, 15⟩] (jT_tbl3 hhd) (fun z h => by rw [List.mem_singleton.mp h]; exact ⟨by decide, _, ht _ kW_a, jT_nca hnc 1 rfl⟩) (by decide) (by decide) (ht _ kW_s) (jT_args hst _ _ (List.mem_of_getElem? (i := 9) rfl)) (fun a9 H9 hk9 => ?_)
  refine W.eq (g2 := F0 m 17 ls [.ref a9]) rfl ?_
  refine lv_astore (lv' := [(4, .ref a9), (0, .ref x), (1, .int v1), (2, .int v2), (3, .ref oo)]) hx hb d_W_character_17 hl (by decide) rfl (fun ls hl => ?_)
  refine lv_iconst (v := nI 2) hx hb d_W_character_19 (by decide) ?_
  exact W.iret (v := nI 2) hx hb hr (fun t9 ht9 _ => ⟨rfl, by rw [ht9]; exact hk9⟩) (fun q h => by cases h) d_W_character_20

set_option maxHeartbeats 1000000 in
set_option maxRecDepth 100000 in
theorem m_W_character_t3 (l : Launch) (D : va_G) (x oo : Nat) (fs : List Value) (v1 v2 : Int32) (wc : va_W) (tyc : List (ClassId × FieldType)) (hM : jT_Met l y_J_character w_J_character ({ frames := 6, cells := 1, slots := 6, locals := 81 }) (jT_P [.ref x, .int v1, .int v2] D jw_cl wc tyc) "java/lang/IndexOutOfBoundsException") : Met l y_W_character ww_character ({ frames := 7, cells := 1, slots := 6, locals := 104 }) (jT_WP [.ref x, .int v1, .int v2, .ref oo] x fs D wc tyc) (jT_WQ (nI 3)) 1 6 (fun _ => False) := by
  refine jT_MetW (cc := c_W_character) (maxL := 5) (ret := some .int) (hd := hd_character) (by decide) rfl ?_
  intro pg0 en0 s m args below meth cd0 s₁ B hml hhd hv
  obtain ⟨rfl, hPx, hP, hK, hst, hnc⟩ := hv
  have hx := B.exec
  have hb := B.bytes
  have hr := B.returns
  have hts := atoms_spec (ws := ww_character) B.pre
  have ht : ∀ w ∈ jw_tbl, w.before _ s = true := fun w h => hts w (List.mem_cons_of_mem _ h)
  have hown : s.vm.findClass jn_W = some m.cls := findClass_of_methodNamed B.named
  have hlocks := B.notSynchronized
  have hl := lv_entry ([.ref x, .int v1, .int v2, .ref oo]) (n := 5) (Nat.le_of_ble_eq_true rfl)
  rw [lg_entry_eq]
  generalize (lg_sl ([.ref x, .int v1, .int v2, .ref oo]) ++ List.replicate (5 - (lg_sl ([.ref x, .int v1, .int v2, .ref oo])).length) Slot.unset).toArray = ls at hl ⊢
  have hl : lv_has ls 5 [(0, .ref x), (1, .int v1), (2, .int v2), (3, .ref oo)] := hl
  refine lv_aload_n hx hb d_W_character_0 rfl (lv_at hl 3 rfl) ?_
  refine lv_iconst (v := nI 0) hx hb d_W_character_1 (by decide) ?_
  refine lv_aload_n hx hb d_W_character_2 rfl (lv_at hl 0 rfl) ?_
  refine lv_iload_n hx hb d_W_character_3 rfl (lv_at hl 1 rfl) ?_
  refine lv_iload_n hx hb d_W_character_4 rfl (lv_at hl 2 rfl) ?_
  refine jT_call (X := "java/lang/IndexOutOfBoundsException") (As := [.int v1, .int v2]) (rest := [.int (nI 0), .ref oo]) hx hb hml hown ht hM o_J_character k_W_29 rfl rfl ⟨Nat.le_of_ble_eq_true rfl, Nat.le_of_ble_eq_true rfl⟩ jT_P_bl (jT_P_of hP hK hst (fun _ _ h => h)) (va_recv (q0 := 0) (ci := 5) hK hPx rfl rfl) rfl hl.1 rfl (Nat.le_of_ble_eq_true rfl) d_W_character_5 ⟨Nat.le_of_ble_eq_true rfl, Nat.le_of_ble_eq_true rfl⟩ [⟨0, 10, 13, 13⟩, ⟨0, 10, 17, 17⟩] ⟨0, 10, 21, 15⟩ [] (jT_tbl3 hhd) (fun z h => (List.mem_cons.mp h).elim (fun h => by rw [h]; exact ⟨by decide, _, ht _ kW_a, jT_nca hnc 0 rfl⟩) (fun h => by rw [List.mem_singleton.mp h]; exact ⟨by decide, _, ht _ kW_s, jT_nca hnc 5 rfl⟩)) (by decide) (by decide) (ht _ kW_i) (jT_args hst _ _ (List.mem_of_getElem? (i := 8) rfl)) (fun a9 H9 hk9 => ?_)
  refine W.eq (g2 := F0 m 21 ls [.ref a9]) rfl ?_
  refine lv_astore (lv' := [(4, .ref a9), (0, .ref x), (1, .int v1), (2, .int v2), (3, .ref oo)]) hx hb d_W_character_21 hl (by decide) rfl (fun ls hl => ?_)
  refine lv_iconst (v := nI 3) hx hb d_W_character_23 (by decide) ?_
  exact W.iret (v := nI 3) hx hb hr (fun t9 ht9 _ => ⟨rfl, by rw [ht9]; exact hk9⟩) (fun q h => by cases h) d_W_character_24

set_option maxHeartbeats 1000000 in
set_option maxRecDepth 100000 in
theorem m_W_character_y (l : Launch) (D : va_G) (sz : Nat) (x oo : Nat) (fs : List Value) (v1 v2 : Int32) (wc : va_W) (tyc : List (ClassId × FieldType)) (cJ : ClassId) (f : Nat → Int64) (hx0 : wc[0]? = some (x, .inr (5, fs))) (rm : Room) (hrc : rm.cells = 0) (hrs : rm.slots = 0) (hrf : rm.frames ≤ 2) (hrl : rm.locals ≤ 42) (r : Int32) (hM : Met l y_J_character w_J_character rm (jw_P [.ref x, .int v1, .int v2] D jw_cl wc tyc) (k2_QcV (.int r)) 0 0 (fun _ => False)) : Met l y_W_character ww_character ({ frames := 3, cells := 0, slots := 0, locals := 65 }) (jw_C [.ref x, .int v1, .int v2, .ref oo] D jw_cl ((oo, .inl (cJ, 1, .inr (.inl f))) :: wc) ((cJ, .long) :: tyc) sz) (va_Qi (fun (q : Int32) (_ : Unit) => q = nI 0) (jw_B D jw_cl (va_A ((oo, .inl (cJ, 1, .inr (.inl f))) :: wc) sz) (fun _ => (oo, .inl (cJ, 1, .inr (.inl (vp_updL f 0 (r).toInt64)))) :: wc)) (va_A ((oo, .inl (cJ, 1, .inr (.inl f))) :: wc) sz)) 0 0 (va_A ((oo, .inl (cJ, 1, .inr (.inl f))) :: wc) sz) := by
  refine jT_MetW (cc := c_W_character) (maxL := 5) (ret := some .int) (hd := hd_character) (by decide) rfl ?_
  intro pg0 en0 s m args below meth cd0 s₁ B hml hhd hv
  obtain ⟨rfl, hsz, hP, hK, hD0⟩ := hv
  have hx := B.exec
  have hb := B.bytes
  have hr := B.returns
  have hts := atoms_spec (ws := ww_character) B.pre
  have ht : ∀ w ∈ jw_tbl, w.before _ s = true := fun w h => hts w (List.mem_cons_of_mem _ h)
  have hown : s.vm.findClass jn_W = some m.cls := findClass_of_methodNamed B.named
  have hlocks := B.notSynchronized
  subst hsz
  have hD := hD0.self (sz := s.heap.size)
  generalize hAe : va_A ((oo, .inl (cJ, 1, .inr (.inl f))) :: wc) s.heap.size = A at hD ⊢
  have hA : ∀ q : Nat, s.heap.size ≤ q → A q := fun q h => by rw [← hAe]; exact Or.inr h
  have hS : va_S A s.heap s.heap [] := va_S.rf
  have hPc : va_P D jw_cl wc s.heap := hP.by (fun k => k + 1) (fun k q h => h)
  have hKc : va_K D jw_cl tyc s := ⟨hK.1, fun k q h => hK.2 (k + 1) q h⟩
  have hl := lv_entry ([.ref x, .int v1, .int v2, .ref oo]) (n := 5) (Nat.le_of_ble_eq_true rfl)
  rw [lg_entry_eq]
  generalize (lg_sl ([.ref x, .int v1, .int v2, .ref oo]) ++ List.replicate (5 - (lg_sl ([.ref x, .int v1, .int v2, .ref oo])).length) Slot.unset).toArray = ls at hl ⊢
  have hl : lv_has ls 5 [(0, .ref x), (1, .int v1), (2, .int v2), (3, .ref oo)] := hl
  refine lv_aload_n hx hb d_W_character_0 rfl (lv_at hl 3 rfl) ?_
  refine lv_iconst (v := nI 0) hx hb d_W_character_1 (by decide) ?_
  refine lv_aload_n hx hb d_W_character_2 rfl (lv_at hl 0 rfl) ?_
  refine lv_iload_n hx hb d_W_character_3 rfl (lv_at hl 1 rfl) ?_
  refine lv_iload_n hx hb d_W_character_4 rfl (lv_at hl 2 rfl) ?_
  refine jw_rV (As := [.int v1, .int v2]) (rest := [.int (nI 0), .ref oo]) hx hb hml hown ht hM o_J_character k_W_29 hrc hrs ⟨by show rm.frames + 1 ≤ 3; omega, by show 8 + (4 + 11) + rm.locals ≤ 65; omega⟩ hPc hKc (va_recv (q0 := 0) (ci := 5) hK hPc rfl hx0) rfl hl.1 rfl (Nat.le_of_ble_eq_true rfl) d_W_character_5 ⟨Nat.zero_le _, Nat.zero_le _⟩ ?_
  have hP : va_P D jw_cl ((oo, .inl (cJ, 1, .inr (.inl f))) :: wc) s.heap := hP
  refine lv_i2l hx hb d_W_character_8 rfl ?_
  refine va_last hx hb hK hP hD hS 0 0 rfl rfl (vp_in_nI (by decide) (by decide)) d_W_character_9 (fun H locs hP hD hS => ?_)
  rw [show (nI 0).toNatClampNeg = 0 from nI_clamp (by omega)] at hP hD
  have hP : va_P D jw_cl ((oo, .inl (cJ, 1, .inr (.inl (vp_updL f 0 (r).toInt64)))) :: wc) H := hP
  have hD : va_D A ((oo, .inl (cJ, 1, .inr (.inl (vp_updL f 0 (r).toInt64)))) :: wc) := hD
  refine lv_goto (tgt := 25) hx hb d_W_character_10 (by decide) ?_
  refine lv_iconst (v := nI 0) hx hb d_W_character_25 (by decide) ?_
  exact W.iret (v := nI 0) hx hb hr (fun t9 ht9 hW9 => ⟨⟨nI 0, (), rfl, rfl, by rw [ht9]; exact hP, hD⟩, hS.F ht9⟩) hS.2.2 d_W_character_26
