theorem kM_L : Cond.classLink jn_L 11 "[[I" ∈ jw_tbl := jw_in 161 (by decide +kernel) (by decide +kernel)
def jN_L (av : List Value) (D : va_G) (cl : List vw_C) (wc : va_W) (tyc : List (ClassId × FieldType)) (sz : Nat) : Array Value → State → Prop := fun a U => jw_C av D cl wc tyc sz a U ∧ va_AOA .int U
theorem jN_L_bl {av : List Value} {D : va_G} {cl : List vw_C} {wc : va_W} {tyc : List (ClassId × FieldType)} {sz : Nat} : FrameBlind (jN_L av D cl wc tyc sz) := fun a U g mk q => ⟨jw_C_bl a U g mk q.1, va_AOA.kept (u := U) (Vm.Alike.refl U.vm) q.2⟩
theorem jN_L_of {av : List Value} {D : va_G} {cl : List vw_C} {wc : va_W} {tyc : List (ClassId × FieldType)} {s : State} {H : Heap} {A : Nat → Prop} (hP : va_P D cl wc H) (hK : va_K D cl tyc s) (hD : va_D A wc) (hst : va_AOA .int s) : ∀ U : State, U.heap = H → s.WarmedH U.vm → jN_L av D cl wc tyc H.size av.toArray U := fun U hU hW => ⟨jw_C_of hP hK hD U hU hW, va_AOA.kept hW.alike hst⟩
set_option maxHeartbeats 4000000 in
set_option maxRecDepth 100000 in
theorem m_L_init (l : Launch) (D : va_G) (sz : Nat) (nn : Nat) (cI cG : ClassId) : Met l y_L_init w_L_init ({ frames := 1, cells := 31, slots := 210, locals := 12 }) (jN_L [.ref nn] D jw_cl [(nn, .inr (1, [.null, .int (nI 0)]))] [(cI, .int), (cG, .array .int)] sz) (va_Qv (fun _ : Nat × (Nat → Nat) => True) (jw_B D jw_cl (va_A [(nn, .inr (1, [.null, .int (nI 0)]))] sz) (fun u : Nat × (Nat → Nat) => ([(nn, .inr (1, [.ref u.1, .int (nI 0)])), (u.1, .inl (cG, 30, .inr (.inr (.inr (.inr (jx_o u.2))))))] : va_W) ++ jx_r u.2 cI (fun _ _ => nI 0))) (va_A [(nn, .inr (1, [.null, .int (nI 0)]))] sz)) 31 210 (va_A [(nn, .inr (1, [.null, .int (nI 0)]))] sz) := by
  refine Met.ofW (cc := c_L_init) (maxL := 1) (ret := none) (by decide) rfl ?_
  intro pg0 en0 s m args below meth cd0 s₁ B hml hv
  obtain ⟨⟨rfl, hsz, hP, hK, hD0⟩, hAO⟩ := hv
  have hx := B.exec
  have hb := B.bytes
  have hr := B.returns
  have hts := atoms_spec (ws := w_L_init) B.pre
  have ht : ∀ w ∈ jw_tbl, w.before _ s = true := fun w h => hts w (List.mem_cons_of_mem _ h)
  have hown : s.vm.findClass jn_L = some m.cls := findClass_of_methodNamed B.named
  have hlocks := B.notSynchronized
  have hin : meth.name = "<init>" := (name_of_methodNamed B.named B.method).1
  subst hsz
  have hD := hD0.self (sz := s.heap.size)
  generalize hAe : va_A [(nn, .inr (1, [.null, .int (nI 0)]))] s.heap.size = A at hD ⊢
  have hA : ∀ q : Nat, s.heap.size ≤ q → A q := fun q h => by rw [← hAe]; exact Or.inr h
  have hS : va_S A s.heap s.heap [] := va_S.rf
  have hP : va_P D jw_cl [(nn, .inr (1, [.null, .int (nI 0)]))] s.heap := hP
  have hl := lv_entry ([.ref nn]) (n := 1) (Nat.le_of_ble_eq_true rfl)
  rw [lg_entry_eq]
  generalize (lg_sl ([.ref nn]) ++ List.replicate (1 - (lg_sl ([.ref nn])).length) Slot.unset).toArray = ls at hl ⊢
  have hl : lv_has ls 1 [(0, .ref nn)] := hl
  refine lv_aload_n hx hb d_L_init_0 rfl (lv_at hl 0 rfl) ?_
  refine W.objInit hx hb hown (ht _ k_L_obj) (ht _ k_obj_i) (ht _ k_obj_c) rfl (by rw [hml]; exact hl.1) rfl d_L_init_1 (Nat.le_of_ble_eq_true rfl) (Nat.le_of_ble_eq_true rfl) ?_
  refine W.eq (g2 := F0 m 4 ls []) rfl ?_
  refine lv_aload_n hx hb d_L_init_4 rfl (lv_at hl 0 rfl) ?_
  refine lv_bipush (v := nI 30) hx hb d_L_init_5 (by decide) ?_
  refine lv_bipush (v := nI 6) hx hb d_L_init_7 (by decide) ?_
  refine va_mna (X := [(nn, .inr (1, [.null, .int (nI 0)]))]) (L := []) (f := fun _ => .inl (cI, 0, .inl (fun _ => nI 0))) (ty := .int) (cy := cI) (z := (6, .inl (fun _ => nI 0))) (N' := 30) (K' := 6) hx hb hown (by rw [show ("[" ++ (FieldType.array FieldType.int).toString) = "[[I" by decide]; exact ht _ kM_L) hAO (ht _ kN_i) (hK.2 0 (cI, .int) rfl).2 hK hP hD hS hA (nI_pos (by decide)) (nI_pos (by decide)) (nI_clamp (by decide)) (nI_clamp (by decide)) (by decide) (by decide) (by decide) (by decide) (by decide) (Nat.le_of_ble_eq_true rfl) (Nat.le_of_ble_eq_true rfl) (fun _ => by rw [vp_cell_i]; unfold Jvm.Free.Multi.innerC arrV; congr 1) d_L_init_9 (fun q9 ad cA H hi9 ho9 hK9 hP hD hS => ?_)
  have eA : cA = cG := Option.some.inj (((hK9.2 2 (cA, .array .int) rfl).2 : s.vm.findClass _ = some cA).symm.trans (hK.2 1 (cG, .array .int) rfl).2)
  rw [eA, jN_pl] at hP hD
  have hP : va_P D jw_cl (([(nn, .inr (1, [.null, .int (nI 0)])), (q9, .inl (cG, 30, .inr (.inr (.inr (.inr (jx_o ad))))))] : va_W) ++ jx_r ad cI (fun _ _ => nI 0)) H := hP
  have hD : va_D A (([(nn, .inr (1, [.null, .int (nI 0)])), (q9, .inl (cG, 30, .inr (.inr (.inr (.inr (jx_o ad))))))] : va_W) ++ jx_r ad cI (fun _ _ => nI 0)) := hD
  refine va_putF (D := D) (ci := 1) (v := .ref q9) (ty := .array (.array .int)) (C := jn_L) (T := jf_L) (N := 2) hx hb ht ji_L jy_L jo_L jm_L hown hK hP hD hS 0 rfl rfl 0 (by decide) (ht _ k_L_13) (fun _ h9 => h9) rfl hin rfl (by decide +kernel) rfl rfl (Nat.le_of_ble_eq_true rfl) d_L_init_13 (fun H locs hP hD hS => ?_)
  have hP : va_P D jw_cl (([(nn, .inr (1, [.ref q9, .int (nI 0)])), (q9, .inl (cG, 30, .inr (.inr (.inr (.inr (jx_o ad))))))] : va_W) ++ jx_r ad cI (fun _ _ => nI 0)) H := hP
  have hD : va_D A (([(nn, .inr (1, [.ref q9, .int (nI 0)])), (q9, .inl (cG, 30, .inr (.inr (.inr (.inr (jx_o ad))))))] : va_W) ++ jx_r ad cI (fun _ _ => nI 0)) := hD
  refine lv_aload_n hx hb d_L_init_16 rfl (lv_at hl 0 rfl) ?_
  refine lv_iconst (v := nI 0) hx hb d_L_init_17 (by decide) ?_
  refine va_put (D := D) (ci := 1) (v := .int (nI 0)) (ty := .int) (C := jn_L) (T := jf_L) (N := 2) hx hb ht ji_L jy_L jo_L jm_L hown hK hP hD hS 0 rfl rfl 1 (by decide) (ht _ k_L_16) (fun _ h9 => h9) rfl (by decide +kernel) rfl rfl (Nat.le_of_ble_eq_true rfl) d_L_init_18 (fun H locs hP hD hS => ?_)
  have hP : va_P D jw_cl (([(nn, .inr (1, [.ref q9, .int (nI 0)])), (q9, .inl (cG, 30, .inr (.inr (.inr (.inr (jx_o ad))))))] : va_W) ++ jx_r ad cI (fun _ _ => nI 0)) H := hP
  have hD : va_D A (([(nn, .inr (1, [.ref q9, .int (nI 0)])), (q9, .inl (cG, 30, .inr (.inr (.inr (.inr (jx_o ad))))))] : va_W) ++ jx_r ad cI (fun _ _ => nI 0)) := hD
  exact W.vret hx hb hr (fun t9 ht9 hW9 => ⟨⟨(q9, ad), rfl, trivial, by rw [ht9]; exact hP, hD⟩, hS.F ht9⟩) hS.2.2 d_L_init_21
