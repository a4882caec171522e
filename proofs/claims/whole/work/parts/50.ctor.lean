def jN_ws : List Cond := [.methodLinkNest "JointText$Client" 11 y_T_init "JointText", .methodLinkNest "JointText$Client" 20 y_G_init "JointText", .methodLinkNest "JointText" 20 y_S_init "JointText", .methodLinkNest "JointText$Server" 11 y_T_init "JointText", .methodLinkNest "JointText" 27 y_L_init "JointText"]
def jN_st (U : State) : Prop := ∀ w ∈ jN_ws, va_Nw w U
theorem jN_keep {s U : State} (hW : s.WarmedH U.vm) (h : jN_st s) : jN_st U := by
  unfold jN_st jN_ws at h ⊢
  simp only [List.mem_cons, List.not_mem_nil, or_false, forall_eq_or_imp, forall_eq] at h ⊢
  exact ⟨h.1.warmM hW, h.2.1.warmM hW, h.2.2.1.warmM hW, h.2.2.2.1.warmM hW, h.2.2.2.2.warmM hW⟩
def jN_C (av : List Value) (D : va_G) (cl : List vw_C) (wc : va_W) (tyc : List (ClassId × FieldType)) (sz : Nat) : Array Value → State → Prop := fun a U => jw_C av D cl wc tyc sz a U ∧ jN_st U
theorem jN_C_bl {av : List Value} {D : va_G} {cl : List vw_C} {wc : va_W} {tyc : List (ClassId × FieldType)} {sz : Nat} : FrameBlind (jN_C av D cl wc tyc sz) := fun a U g mk q => ⟨jw_C_bl a U g mk q.1, jN_keep (s := U) (State.WarmedH.refl U) q.2⟩
theorem jN_C_of {av : List Value} {D : va_G} {cl : List vw_C} {wc : va_W} {tyc : List (ClassId × FieldType)} {s : State} {H : Heap} {A : Nat → Prop} (hP : va_P D cl wc H) (hK : va_K D cl tyc s) (hD : va_D A wc) (hst : jN_st s) : ∀ U : State, U.heap = H → s.WarmedH U.vm → jN_C av D cl wc tyc H.size av.toArray U := fun U hU hW => ⟨jw_C_of hP hK hD U hU hW, jN_keep hW hst⟩
section JNU
variable {p : Program} {l : Launch} {e : Env} {R : Room} {s : State} {m : MethodId} {args : Array Value} {below : List Frame} {meth : Method} {c : Code} {H : Heap} {locs : List Loc} {cells slots : Nat}
variable {y : MethodName} {bytes cc : ByteArray} {maxL nL n index mc ms : Nat} {rm : Room} {own host : String} {b : Addr} {As rest st0 : List Value} {pc : Nat} {ls : Array Slot} {Pc : Array Value → State → Prop}
/-- the run of a private constructor's call -/
theorem jN_uN {Qc : Array Value → State → Outcome → State → Prop} {free : Addr → Prop} (hx : p.tables.exec = Jvm.exec) (hb : c.code = cc) (hml : c.maxLocals = nL) (hown : s.vm.findClass own = some m.cls) (ht : ∀ w ∈ jw_tbl, w.before args s = true)
    (hM : Met l y (Cond.code y bytes maxL none :: jw_tbl) rm Pc Qc mc ms free) (o : jw_OI y bytes maxL n) (hl : va_Nw (.methodLinkNest own index y host) s) (hrc : rm.cells = mc) (hrs : rm.slots = ms) (hR : rm.frames + 1 ≤ R.frames ∧ 8 + (maxL + 11) + rm.locals ≤ R.locals)
    (hbl : FrameBlind Pc) (hPc : ∀ U : State, U.heap = H → s.WarmedH U.vm → Pc (Value.ref b :: As).toArray U) (hn : As.length = n) (hls : ls.size = nL) (hst : st0 = As.reverse ++ .ref b :: rest) (hW : (rest.map fun v => v.category).sum ≤ 8) (hdg : decode cc pc = .ok (.invokespecial index, 3)) (hf : cells + mc ≤ R.cells ∧ slots + ms ≤ R.slots) :
    va_Run p l e R s m args below meth c H locs cells slots mc ms (F0 m pc ls st0) rest (Qc (Value.ref b :: As).toArray) free := by
  obtain ⟨o1, o3, o4, oN, o5, o6, o7⟩ := o
  exact va_runIN (Ts := jw_tbl) ⟨hx, hb, hml, hown, ht⟩ hM ⟨va_cnB n ht (jw_GI o4) rfl hrc hrs hl (ht _ o3) ⟨o5, o6, o7⟩ hR, oN, ht _ o1⟩ ⟨hbl, hPc⟩ rfl hn hls hst (lv_room hW) hdg hf
end JNU
theorem kC_J_9 : Cond.classLink jn_J 9 "JointText$Client" ∈ jw_tbl := jw_in 58 (by decide +kernel) (by decide +kernel)
theorem kI_C : Cond.instantiable "JointText$Client" 8 ∈ jw_tbl := jw_in 60 (by decide +kernel) (by decide +kernel)
theorem kZ_C : Cond.initialized "JointText$Client" ∈ jw_tbl := jw_in 35 (by decide +kernel) (by decide +kernel)
theorem kC_J_18 : Cond.classLink jn_J 18 "JointText$Server" ∈ jw_tbl := jw_in 127 (by decide +kernel) (by decide +kernel)
theorem kI_S : Cond.instantiable "JointText$Server" 6 ∈ jw_tbl := jw_in 128 (by decide +kernel) (by decide +kernel)
theorem kZ_S : Cond.initialized "JointText$Server" ∈ jw_tbl := jw_in 38 (by decide +kernel) (by decide +kernel)
theorem kC_J_25 : Cond.classLink jn_J 25 "JointText$Line" ∈ jw_tbl := jw_in 155 (by decide +kernel) (by decide +kernel)
theorem kI_L : Cond.instantiable "JointText$Line" 2 ∈ jw_tbl := jw_in 156 (by decide +kernel) (by decide +kernel)
theorem kZ_L : Cond.initialized "JointText$Line" ∈ jw_tbl := jw_in 39 (by decide +kernel) (by decide +kernel)
theorem kC_C_9 : Cond.classLink jn_C 9 "JointText$Text" ∈ jw_tbl := jw_in 65 (by decide +kernel) (by decide +kernel)
theorem kI_T : Cond.instantiable "JointText$Text" 2 ∈ jw_tbl := jw_in 66 (by decide +kernel) (by decide +kernel)
theorem kZ_T : Cond.initialized "JointText$Text" ∈ jw_tbl := jw_in 36 (by decide +kernel) (by decide +kernel)
theorem kC_C_18 : Cond.classLink jn_C 18 "JointText$Log" ∈ jw_tbl := jw_in 79 (by decide +kernel) (by decide +kernel)
theorem kI_G : Cond.instantiable "JointText$Log" 4 ∈ jw_tbl := jw_in 80 (by decide +kernel) (by decide +kernel)
theorem kZ_G : Cond.initialized "JointText$Log" ∈ jw_tbl := jw_in 37 (by decide +kernel) (by decide +kernel)
theorem kC_S_9 : Cond.classLink jn_S 9 "JointText$Text" ∈ jw_tbl := jw_in 133 (by decide +kernel) (by decide +kernel)
set_option maxHeartbeats 4000000 in
set_option maxRecDepth 100000 in
theorem m_S_init (l : Launch) (D : va_G) (sz : Nat) (z : Nat) (cI : ClassId) : Met l y_S_init w_S_init ({ frames := 2, cells := 4, slots := 190, locals := 32 }) (jN_C [.ref z] D jw_cl [(z, .inr (3, [.null, .null, .null, .int (nI 0), .int (nI 0), .int (nI 0)]))] [(cI, .int)] sz) (va_Qv (fun _ : Nat → Nat => True) (jw_B D jw_cl (va_A [(z, .inr (3, [.null, .null, .null, .int (nI 0), .int (nI 0), .int (nI 0)]))] sz) (fun u : Nat → Nat => [(z, .inr (3, [.ref (u 0), .ref (u 2), .ref (u 3), .int (nI 0), .int (nI 1), .int (nI 0)])), ((u 0), .inr (4, [.ref (u 1), .int (nI 0)])), ((u 1), .inl (cI, 68, .inl (fun _ => nI 0))), ((u 2), .inl (cI, 60, .inl (fun _ => nI 0))), ((u 3), .inl (cI, 60, .inl (fun _ => nI 0)))])) (va_A [(z, .inr (3, [.null, .null, .null, .int (nI 0), .int (nI 0), .int (nI 0)]))] sz)) 4 190 (va_A [(z, .inr (3, [.null, .null, .null, .int (nI 0), .int (nI 0), .int (nI 0)]))] sz) := by
  refine Met.ofW (cc := c_S_init) (maxL := 1) (ret := none) (by decide) rfl ?_
  intro pg0 en0 s m args below meth cd0 s₁ B hml hv
  obtain ⟨⟨rfl, hsz, hP, hK, hD0⟩, hN0⟩ := hv
  have hx := B.exec
  have hb := B.bytes
  have hr := B.returns
  have hts := atoms_spec (ws := w_S_init) B.pre
  have ht : ∀ w ∈ jw_tbl, w.before _ s = true := fun w h => hts w (List.mem_cons_of_mem _ h)
  have hown : s.vm.findClass jn_S = some m.cls := findClass_of_methodNamed B.named
  have hlocks := B.notSynchronized
  have hin : meth.name = "<init>" := (name_of_methodNamed B.named B.method).1
  subst hsz
  have hD := hD0.self (sz := s.heap.size)
  generalize hAe : va_A [(z, .inr (3, [.null, .null, .null, .int (nI 0), .int (nI 0), .int (nI 0)]))] s.heap.size = A at hD ⊢
  have hA : ∀ q : Nat, s.heap.size ≤ q → A q := fun q h => by rw [← hAe]; exact Or.inr h
  have hS : va_S A s.heap s.heap [] := va_S.rf
  have hP : va_P D jw_cl [(z, .inr (3, [.null, .null, .null, .int (nI 0), .int (nI 0), .int (nI 0)]))] s.heap := hP
  have hl := lv_entry ([.ref z]) (n := 1) (Nat.le_of_ble_eq_true rfl)
  rw [lg_entry_eq]
  generalize (lg_sl ([.ref z]) ++ List.replicate (1 - (lg_sl ([.ref z])).length) Slot.unset).toArray = ls at hl ⊢
  have hl : lv_has ls 1 [(0, .ref z)] := hl
  refine lv_aload_n hx hb d_S_init_0 rfl (lv_at hl 0 rfl) ?_
  refine W.objInit hx hb hown (ht _ k_S_obj) (ht _ k_obj_i) (ht _ k_obj_c) rfl (by rw [hml]; exact hl.1) rfl d_S_init_1 (Nat.le_of_ble_eq_true rfl) (Nat.le_of_ble_eq_true rfl) ?_
  refine W.eq (g2 := F0 m 4 ls []) rfl ?_
  refine lv_aload_n hx hb d_S_init_4 rfl (lv_at hl 0 rfl) ?_
  refine va_new (C := jn_T) (T := jf_T) (N := 2) (ci := 4) (fs := [.null, .int (nI 0)]) hx hb ht ji_T jy_T jo_T hown (ht _ kC_S_9) (ht _ kI_T) (ht _ kZ_T) hK hP hD hS hA rfl (fun j hj => by rcases (by omega : j = 0 ∨ j = 1) with h9 | h9 <;> rw [h9] <;> rfl) (Nat.le_of_ble_eq_true rfl) (Nat.le_of_ble_eq_true rfl) d_S_init_5 (fun n1 H hP hD hS => ?_)
  have hP : va_P D jw_cl [(z, .inr (3, [.null, .null, .null, .int (nI 0), .int (nI 0), .int (nI 0)])), (n1, .inr (4, [.null, .int (nI 0)]))] H := hP
  have hD : va_D A [(z, .inr (3, [.null, .null, .null, .int (nI 0), .int (nI 0), .int (nI 0)])), (n1, .inr (4, [.null, .int (nI 0)]))] := hD
  refine lv_dup hx hb d_S_init_8 rfl ?_
  refine jw_jv (ws := [(z, .inr (3, [.null, .null, .null, .int (nI 0), .int (nI 0), .int (nI 0)])), (n1, .inr (4, [.null, .int (nI 0)]))]) (wc := [(n1, .inr (4, [.null, .int (nI 0)]))]) (wr := [(z, .inr (3, [.null, .null, .null, .int (nI 0), .int (nI 0), .int (nI 0)]))]) (jN_uN (As := []) (rest := [.ref n1, .ref z]) (b := n1) hx hb hml hown ht (m_T_init l D _ n1 cI) o_T_init (hN0 _ (List.mem_of_getElem? (i := 3) rfl)) rfl rfl ⟨Nat.le_of_ble_eq_true rfl, Nat.le_of_ble_eq_true rfl⟩ jw_C_bl (jw_C_of (hP.sub [1] rfl) (hK.sub [0] rfl) (hD.sub [1] (by decide) rfl)) rfl hl.1 rfl (Nat.le_of_ble_eq_true rfl) d_S_init_9 ⟨Nat.le_of_ble_eq_true rfl, Nat.le_of_ble_eq_true rfl⟩) hP hD hS hA [1] [0] rfl rfl (by decide) (by decide) (fun u1 H locs hu1 hP hD hS => ?_)
  have hP : va_P D jw_cl [(z, .inr (3, [.null, .null, .null, .int (nI 0), .int (nI 0), .int (nI 0)])), (n1, .inr (4, [.ref (u1 0), .int (nI 0)])), ((u1 0), .inl (cI, 68, .inl (fun _ => nI 0)))] H := hP
  have hD : va_D A [(z, .inr (3, [.null, .null, .null, .int (nI 0), .int (nI 0), .int (nI 0)])), (n1, .inr (4, [.ref (u1 0), .int (nI 0)])), ((u1 0), .inl (cI, 68, .inl (fun _ => nI 0)))] := hD
  refine va_putF (D := D) (ci := 3) (v := .ref n1) (ty := .object "JointText$Text") (C := jn_S) (T := jf_S) (N := 6) hx hb ht ji_S jy_S jo_S jm_S hown hK hP hD hS 0 rfl rfl 0 (by decide) (ht _ k_S_12) (fun _ h9 => h9) rfl hin rfl (by decide +kernel) rfl rfl (Nat.le_of_ble_eq_true rfl) d_S_init_12 (fun H locs hP hD hS => ?_)
  have hP : va_P D jw_cl [(z, .inr (3, [.ref n1, .null, .null, .int (nI 0), .int (nI 0), .int (nI 0)])), (n1, .inr (4, [.ref (u1 0), .int (nI 0)])), ((u1 0), .inl (cI, 68, .inl (fun _ => nI 0)))] H := hP
  have hD : va_D A [(z, .inr (3, [.ref n1, .null, .null, .int (nI 0), .int (nI 0), .int (nI 0)])), (n1, .inr (4, [.ref (u1 0), .int (nI 0)])), ((u1 0), .inl (cI, 68, .inl (fun _ => nI 0)))] := hD
  refine lv_aload_n hx hb d_S_init_15 rfl (lv_at hl 0 rfl) ?_
  refine lv_bipush (v := nI 60) hx hb d_S_init_16 (by decide) ?_
  refine jN_newa (atype := .int) (cI := cI) (ty := .int) (a0 := (60, .inl (fun _ => nI 0))) hx hb (ht _ kN_i) rfl hK hP hD hS hA 0 rfl (fun cA h1 h2 => Option.some.inj (h1.symm.trans h2)) (fun _ => rfl) (nI_pos (by decide)) (nI_clamp (by decide)) (by decide) (Nat.le_of_ble_eq_true rfl) (Nat.le_of_ble_eq_true rfl) d_S_init_18 (fun n3 H hP hD hS => ?_)
  have hP : va_P D jw_cl [(z, .inr (3, [.ref n1, .null, .null, .int (nI 0), .int (nI 0), .int (nI 0)])), (n1, .inr (4, [.ref (u1 0), .int (nI 0)])), ((u1 0), .inl (cI, 68, .inl (fun _ => nI 0))), (n3, .inl (cI, 60, .inl (fun _ => nI 0)))] H := hP
  have hD : va_D A [(z, .inr (3, [.ref n1, .null, .null, .int (nI 0), .int (nI 0), .int (nI 0)])), (n1, .inr (4, [.ref (u1 0), .int (nI 0)])), ((u1 0), .inl (cI, 68, .inl (fun _ => nI 0))), (n3, .inl (cI, 60, .inl (fun _ => nI 0)))] := hD
  refine va_putF (D := D) (ci := 3) (v := .ref n3) (ty := .array .int) (C := jn_S) (T := jf_S) (N := 6) hx hb ht ji_S jy_S jo_S jm_S hown hK hP hD hS 0 rfl rfl 1 (by decide) (ht _ k_S_18) (fun _ h9 => h9) rfl hin rfl (by decide +kernel) rfl rfl (Nat.le_of_ble_eq_true rfl) d_S_init_20 (fun H locs hP hD hS => ?_)
  have hP : va_P D jw_cl [(z, .inr (3, [.ref n1, .ref n3, .null, .int (nI 0), .int (nI 0), .int (nI 0)])), (n1, .inr (4, [.ref (u1 0), .int (nI 0)])), ((u1 0), .inl (cI, 68, .inl (fun _ => nI 0))), (n3, .inl (cI, 60, .inl (fun _ => nI 0)))] H := hP
  have hD : va_D A [(z, .inr (3, [.ref n1, .ref n3, .null, .int (nI 0), .int (nI 0), .int (nI 0)])), (n1, .inr (4, [.ref (u1 0), .int (nI 0)])), ((u1 0), .inl (cI, 68, .inl (fun _ => nI 0))), (n3, .inl (cI, 60, .inl (fun _ => nI 0)))] := hD
  refine lv_aload_n hx hb d_S_init_23 rfl (lv_at hl 0 rfl) ?_
  refine lv_bipush (v := nI 60) hx hb d_S_init_24 (by decide) ?_
  refine jN_newa (atype := .int) (cI := cI) (ty := .int) (a0 := (60, .inl (fun _ => nI 0))) hx hb (ht _ kN_i) rfl hK hP hD hS hA 0 rfl (fun cA h1 h2 => Option.some.inj (h1.symm.trans h2)) (fun _ => rfl) (nI_pos (by decide)) (nI_clamp (by decide)) (by decide) (Nat.le_of_ble_eq_true rfl) (Nat.le_of_ble_eq_true rfl) d_S_init_26 (fun n4 H hP hD hS => ?_)
  have hP : va_P D jw_cl [(z, .inr (3, [.ref n1, .ref n3, .null, .int (nI 0), .int (nI 0), .int (nI 0)])), (n1, .inr (4, [.ref (u1 0), .int (nI 0)])), ((u1 0), .inl (cI, 68, .inl (fun _ => nI 0))), (n3, .inl (cI, 60, .inl (fun _ => nI 0))), (n4, .inl (cI, 60, .inl (fun _ => nI 0)))] H := hP
  have hD : va_D A [(z, .inr (3, [.ref n1, .ref n3, .null, .int (nI 0), .int (nI 0), .int (nI 0)])), (n1, .inr (4, [.ref (u1 0), .int (nI 0)])), ((u1 0), .inl (cI, 68, .inl (fun _ => nI 0))), (n3, .inl (cI, 60, .inl (fun _ => nI 0))), (n4, .inl (cI, 60, .inl (fun _ => nI 0)))] := hD
  refine va_putF (D := D) (ci := 3) (v := .ref n4) (ty := .array .int) (C := jn_S) (T := jf_S) (N := 6) hx hb ht ji_S jy_S jo_S jm_S hown hK hP hD hS 0 rfl rfl 2 (by decide) (ht _ k_S_22) (fun _ h9 => h9) rfl hin rfl (by decide +kernel) rfl rfl (Nat.le_of_ble_eq_true rfl) d_S_init_28 (fun H locs hP hD hS => ?_)
  have hP : va_P D jw_cl [(z, .inr (3, [.ref n1, .ref n3, .ref n4, .int (nI 0), .int (nI 0), .int (nI 0)])), (n1, .inr (4, [.ref (u1 0), .int (nI 0)])), ((u1 0), .inl (cI, 68, .inl (fun _ => nI 0))), (n3, .inl (cI, 60, .inl (fun _ => nI 0))), (n4, .inl (cI, 60, .inl (fun _ => nI 0)))] H := hP
  have hD : va_D A [(z, .inr (3, [.ref n1, .ref n3, .ref n4, .int (nI 0), .int (nI 0), .int (nI 0)])), (n1, .inr (4, [.ref (u1 0), .int (nI 0)])), ((u1 0), .inl (cI, 68, .inl (fun _ => nI 0))), (n3, .inl (cI, 60, .inl (fun _ => nI 0))), (n4, .inl (cI, 60, .inl (fun _ => nI 0)))] := hD
  refine lv_aload_n hx hb d_S_init_31 rfl (lv_at hl 0 rfl) ?_
  refine lv_iconst (v := nI 0) hx hb d_S_init_32 (by decide) ?_
  refine va_put (D := D) (ci := 3) (v := .int (nI 0)) (ty := .int) (C := jn_S) (T := jf_S) (N := 6) hx hb ht ji_S jy_S jo_S jm_S hown hK hP hD hS 0 rfl rfl 3 (by decide) (ht _ k_S_25) (fun _ h9 => h9) rfl (by decide +kernel) rfl rfl (Nat.le_of_ble_eq_true rfl) d_S_init_33 (fun H locs hP hD hS => ?_)
  have hP : va_P D jw_cl [(z, .inr (3, [.ref n1, .ref n3, .ref n4, .int (nI 0), .int (nI 0), .int (nI 0)])), (n1, .inr (4, [.ref (u1 0), .int (nI 0)])), ((u1 0), .inl (cI, 68, .inl (fun _ => nI 0))), (n3, .inl (cI, 60, .inl (fun _ => nI 0))), (n4, .inl (cI, 60, .inl (fun _ => nI 0)))] H := hP
  have hD : va_D A [(z, .inr (3, [.ref n1, .ref n3, .ref n4, .int (nI 0), .int (nI 0), .int (nI 0)])), (n1, .inr (4, [.ref (u1 0), .int (nI 0)])), ((u1 0), .inl (cI, 68, .inl (fun _ => nI 0))), (n3, .inl (cI, 60, .inl (fun _ => nI 0))), (n4, .inl (cI, 60, .inl (fun _ => nI 0)))] := hD
  refine lv_aload_n hx hb d_S_init_36 rfl (lv_at hl 0 rfl) ?_
  refine lv_iconst (v := nI 1) hx hb d_S_init_37 (by decide) ?_
  refine va_put (D := D) (ci := 3) (v := .int (nI 1)) (ty := .boolean) (C := jn_S) (T := jf_S) (N := 6) hx hb ht ji_S jy_S jo_S jm_S hown hK hP hD hS 0 rfl rfl 4 (by decide) (ht _ k_S_29) (fun _ h9 => h9) rfl (by decide +kernel) rfl rfl (Nat.le_of_ble_eq_true rfl) d_S_init_38 (fun H locs hP hD hS => ?_)
  have hP : va_P D jw_cl [(z, .inr (3, [.ref n1, .ref n3, .ref n4, .int (nI 0), .int (nI 1), .int (nI 0)])), (n1, .inr (4, [.ref (u1 0), .int (nI 0)])), ((u1 0), .inl (cI, 68, .inl (fun _ => nI 0))), (n3, .inl (cI, 60, .inl (fun _ => nI 0))), (n4, .inl (cI, 60, .inl (fun _ => nI 0)))] H := hP
  have hD : va_D A [(z, .inr (3, [.ref n1, .ref n3, .ref n4, .int (nI 0), .int (nI 1), .int (nI 0)])), (n1, .inr (4, [.ref (u1 0), .int (nI 0)])), ((u1 0), .inl (cI, 68, .inl (fun _ => nI 0))), (n3, .inl (cI, 60, .inl (fun _ => nI 0))), (n4, .inl (cI, 60, .inl (fun _ => nI 0)))] := hD
  refine lv_aload_n hx hb d_S_init_41 rfl (lv_at hl 0 rfl) ?_
  refine lv_iconst (v := nI 0) hx hb d_S_init_42 (by decide) ?_
  refine va_put (D := D) (ci := 3) (v := .int (nI 0)) (ty := .int) (C := jn_S) (T := jf_S) (N := 6) hx hb ht ji_S jy_S jo_S jm_S hown hK hP hD hS 0 rfl rfl 5 (by decide) (ht _ k_S_33) (fun _ h9 => h9) rfl (by decide +kernel) rfl rfl (Nat.le_of_ble_eq_true rfl) d_S_init_43 (fun H locs hP hD hS => ?_)
  have hP : va_P D jw_cl [(z, .inr (3, [.ref n1, .ref n3, .ref n4, .int (nI 0), .int (nI 1), .int (nI 0)])), (n1, .inr (4, [.ref (u1 0), .int (nI 0)])), ((u1 0), .inl (cI, 68, .inl (fun _ => nI 0))), (n3, .inl (cI, 60, .inl (fun _ => nI 0))), (n4, .inl (cI, 60, .inl (fun _ => nI 0)))] H := hP
  have hD : va_D A [(z, .inr (3, [.ref n1, .ref n3, .ref n4, .int (nI 0), .int (nI 1), .int (nI 0)])), (n1, .inr (4, [.ref (u1 0), .int (nI 0)])), ((u1 0), .inl (cI, 68, .inl (fun _ => nI 0))), (n3, .inl (cI, 60, .inl (fun _ => nI 0))), (n4, .inl (cI, 60, .inl (fun _ => nI 0)))] := hD
  exact W.vret hx hb hr (fun t9 ht9 hW9 => ⟨⟨(fun i => ([n1, (u1 0), n3, n4] : List Nat).getD i 0), rfl, trivial, by rw [ht9]; exact hP, hD⟩, hS.F ht9⟩) hS.2.2 d_S_init_46

set_option maxHeartbeats 4000000 in
set_option maxRecDepth 100000 in
theorem m_C_init (l : Launch) (D : va_G) (sz : Nat) (q c0 : Nat) (cI cZ : ClassId) : Met l y_C_init w_C_init ({ frames := 2, cells := 7, slots := 286, locals := 32 }) (jN_C [.ref q, .int (nI c0)] D jw_cl [(q, .inr (0, [.int (nI 0), .null, .null, .null, .int (nI 0), .int (nI 0), .int (nI 0), .int (nI 0)]))] [(cI, .int), (cZ, .boolean)] sz) (va_Qv (fun _ : Nat → Nat => True) (jw_B D jw_cl (va_A [(q, .inr (0, [.int (nI 0), .null, .null, .null, .int (nI 0), .int (nI 0), .int (nI 0), .int (nI 0)]))] sz) (fun u : Nat → Nat => [(q, .inr (0, [.int (nI c0), .ref (u 0), .ref (u 2), .ref (u 6), .int (nI 0), .int (nI 0), .int (nI 0), .int (nI 1)])), ((u 0), .inr (4, [.ref (u 1), .int (nI 0)])), ((u 1), .inl (cI, 68, .inl (fun _ => nI 0))), ((u 2), .inr (2, [.ref (u 3), .ref (u 4), .ref (u 5), .int (nI 0)])), ((u 3), .inl (cI, 68, .inl (fun _ => nI 0))), ((u 4), .inl (cI, 68, .inl (fun _ => nI 0))), ((u 5), .inl (cZ, 68, .inl (fun _ => nI 0))), ((u 6), .inl (cI, 8, .inl (fun _ => nI 0)))])) (va_A [(q, .inr (0, [.int (nI 0), .null, .null, .null, .int (nI 0), .int (nI 0), .int (nI 0), .int (nI 0)]))] sz)) 7 286 (va_A [(q, .inr (0, [.int (nI 0), .null, .null, .null, .int (nI 0), .int (nI 0), .int (nI 0), .int (nI 0)]))] sz) := by
  refine Met.ofW (cc := c_C_init) (maxL := 2) (ret := none) (by decide) rfl ?_
  intro pg0 en0 s m args below meth cd0 s₁ B hml hv
  obtain ⟨⟨rfl, hsz, hP, hK, hD0⟩, hN0⟩ := hv
  have hx := B.exec
  have hb := B.bytes
  have hr := B.returns
  have hts := atoms_spec (ws := w_C_init) B.pre
  have ht : ∀ w ∈ jw_tbl, w.before _ s = true := fun w h => hts w (List.mem_cons_of_mem _ h)
  have hown : s.vm.findClass jn_C = some m.cls := findClass_of_methodNamed B.named
  have hlocks := B.notSynchronized
  have hin : meth.name = "<init>" := (name_of_methodNamed B.named B.method).1
  subst hsz
  have hD := hD0.self (sz := s.heap.size)
  generalize hAe : va_A [(q, .inr (0, [.int (nI 0), .null, .null, .null, .int (nI 0), .int (nI 0), .int (nI 0), .int (nI 0)]))] s.heap.size = A at hD ⊢
  have hA : ∀ q : Nat, s.heap.size ≤ q → A q := fun q h => by rw [← hAe]; exact Or.inr h
  have hS : va_S A s.heap s.heap [] := va_S.rf
  have hP : va_P D jw_cl [(q, .inr (0, [.int (nI 0), .null, .null, .null, .int (nI 0), .int (nI 0), .int (nI 0), .int (nI 0)]))] s.heap := hP
  have hl := lv_entry ([.ref q, .int (nI c0)]) (n := 2) (Nat.le_of_ble_eq_true rfl)
  rw [lg_entry_eq]
  generalize (lg_sl ([.ref q, .int (nI c0)]) ++ List.replicate (2 - (lg_sl ([.ref q, .int (nI c0)])).length) Slot.unset).toArray = ls at hl ⊢
  have hl : lv_has ls 2 [(0, .ref q), (1, .int (nI c0))] := hl
  refine lv_aload_n hx hb d_C_init_0 rfl (lv_at hl 0 rfl) ?_
  refine W.objInit hx hb hown (ht _ k_C_obj) (ht _ k_obj_i) (ht _ k_obj_c) rfl (by rw [hml]; exact hl.1) rfl d_C_init_1 (Nat.le_of_ble_eq_true rfl) (Nat.le_of_ble_eq_true rfl) ?_
  refine W.eq (g2 := F0 m 4 ls []) rfl ?_
  refine lv_aload_n hx hb d_C_init_4 rfl (lv_at hl 0 rfl) ?_
  refine va_new (C := jn_T) (T := jf_T) (N := 2) (ci := 4) (fs := [.null, .int (nI 0)]) hx hb ht ji_T jy_T jo_T hown (ht _ kC_C_9) (ht _ kI_T) (ht _ kZ_T) hK hP hD hS hA rfl (fun j hj => by rcases (by omega : j = 0 ∨ j = 1) with h9 | h9 <;> rw [h9] <;> rfl) (Nat.le_of_ble_eq_true rfl) (Nat.le_of_ble_eq_true rfl) d_C_init_5 (fun n1 H hP hD hS => ?_)
  have hP : va_P D jw_cl [(q, .inr (0, [.int (nI 0), .null, .null, .null, .int (nI 0), .int (nI 0), .int (nI 0), .int (nI 0)])), (n1, .inr (4, [.null, .int (nI 0)]))] H := hP
  have hD : va_D A [(q, .inr (0, [.int (nI 0), .null, .null, .null, .int (nI 0), .int (nI 0), .int (nI 0), .int (nI 0)])), (n1, .inr (4, [.null, .int (nI 0)]))] := hD
  refine lv_dup hx hb d_C_init_8 rfl ?_
  refine jw_jv (ws := [(q, .inr (0, [.int (nI 0), .null, .null, .null, .int (nI 0), .int (nI 0), .int (nI 0), .int (nI 0)])), (n1, .inr (4, [.null, .int (nI 0)]))]) (wc := [(n1, .inr (4, [.null, .int (nI 0)]))]) (wr := [(q, .inr (0, [.int (nI 0), .null, .null, .null, .int (nI 0), .int (nI 0), .int (nI 0), .int (nI 0)]))]) (jN_uN (As := []) (rest := [.ref n1, .ref q]) (b := n1) hx hb hml hown ht (m_T_init l D _ n1 cI) o_T_init (hN0 _ (List.mem_of_getElem? (i := 0) rfl)) rfl rfl ⟨Nat.le_of_ble_eq_true rfl, Nat.le_of_ble_eq_true rfl⟩ jw_C_bl (jw_C_of (hP.sub [1] rfl) (hK.sub [0] rfl) (hD.sub [1] (by decide) rfl)) rfl hl.1 rfl (Nat.le_of_ble_eq_true rfl) d_C_init_9 ⟨Nat.le_of_ble_eq_true rfl, Nat.le_of_ble_eq_true rfl⟩) hP hD hS hA [1] [0] rfl rfl (by decide) (by decide) (fun u1 H locs hu1 hP hD hS => ?_)
  have hP : va_P D jw_cl [(q, .inr (0, [.int (nI 0), .null, .null, .null, .int (nI 0), .int (nI 0), .int (nI 0), .int (nI 0)])), (n1, .inr (4, [.ref (u1 0), .int (nI 0)])), ((u1 0), .inl (cI, 68, .inl (fun _ => nI 0)))] H := hP
  have hD : va_D A [(q, .inr (0, [.int (nI 0), .null, .null, .null, .int (nI 0), .int (nI 0), .int (nI 0), .int (nI 0)])), (n1, .inr (4, [.ref (u1 0), .int (nI 0)])), ((u1 0), .inl (cI, 68, .inl (fun _ => nI 0)))] := hD
  refine va_putF (D := D) (ci := 0) (v := .ref n1) (ty := .object "JointText$Text") (C := jn_C) (T := jf_C) (N := 8) hx hb ht ji_C jy_C jo_C jm_C hown hK hP hD hS 0 rfl rfl 1 (by decide) (ht _ k_C_12) (fun _ h9 => h9) rfl hin rfl (by decide +kernel) rfl rfl (Nat.le_of_ble_eq_true rfl) d_C_init_12 (fun H locs hP hD hS => ?_)
  have hP : va_P D jw_cl [(q, .inr (0, [.int (nI 0), .ref n1, .null, .null, .int (nI 0), .int (nI 0), .int (nI 0), .int (nI 0)])), (n1, .inr (4, [.ref (u1 0), .int (nI 0)])), ((u1 0), .inl (cI, 68, .inl (fun _ => nI 0)))] H := hP
  have hD : va_D A [(q, .inr (0, [.int (nI 0), .ref n1, .null, .null, .int (nI 0), .int (nI 0), .int (nI 0), .int (nI 0)])), (n1, .inr (4, [.ref (u1 0), .int (nI 0)])), ((u1 0), .inl (cI, 68, .inl (fun _ => nI 0)))] := hD
  refine lv_aload_n hx hb d_C_init_15 rfl (lv_at hl 0 rfl) ?_
  refine va_new (C := jn_G) (T := jf_G) (N := 4) (ci := 2) (fs := [.null, .null, .null, .int (nI 0)]) hx hb ht ji_G jy_G jo_G hown (ht _ kC_C_18) (ht _ kI_G) (ht _ kZ_G) hK hP hD hS hA rfl (fun j hj => by rcases (by omega : j = 0 ∨ j = 1 ∨ j = 2 ∨ j = 3) with h9 | h9 | h9 | h9 <;> rw [h9] <;> rfl) (Nat.le_of_ble_eq_true rfl) (Nat.le_of_ble_eq_true rfl) d_C_init_16 (fun n3 H hP hD hS => ?_)
  have hP : va_P D jw_cl [(q, .inr (0, [.int (nI 0), .ref n1, .null, .null, .int (nI 0), .int (nI 0), .int (nI 0), .int (nI 0)])), (n1, .inr (4, [.ref (u1 0), .int (nI 0)])), ((u1 0), .inl (cI, 68, .inl (fun _ => nI 0))), (n3, .inr (2, [.null, .null, .null, .int (nI 0)]))] H := hP
  have hD : va_D A [(q, .inr (0, [.int (nI 0), .ref n1, .null, .null, .int (nI 0), .int (nI 0), .int (nI 0), .int (nI 0)])), (n1, .inr (4, [.ref (u1 0), .int (nI 0)])), ((u1 0), .inl (cI, 68, .inl (fun _ => nI 0))), (n3, .inr (2, [.null, .null, .null, .int (nI 0)]))] := hD
  refine lv_dup hx hb d_C_init_19 rfl ?_
  refine jw_jv (ws := [(q, .inr (0, [.int (nI 0), .ref n1, .null, .null, .int (nI 0), .int (nI 0), .int (nI 0), .int (nI 0)])), (n1, .inr (4, [.ref (u1 0), .int (nI 0)])), ((u1 0), .inl (cI, 68, .inl (fun _ => nI 0))), (n3, .inr (2, [.null, .null, .null, .int (nI 0)]))]) (wc := [(n3, .inr (2, [.null, .null, .null, .int (nI 0)]))]) (wr := [(q, .inr (0, [.int (nI 0), .ref n1, .null, .null, .int (nI 0), .int (nI 0), .int (nI 0), .int (nI 0)])), (n1, .inr (4, [.ref (u1 0), .int (nI 0)])), ((u1 0), .inl (cI, 68, .inl (fun _ => nI 0)))]) (jN_uN (As := []) (rest := [.ref n3, .ref q]) (b := n3) hx hb hml hown ht (m_G_init l D _ n3 cI cZ) o_G_init (hN0 _ (List.mem_of_getElem? (i := 1) rfl)) rfl rfl ⟨Nat.le_of_ble_eq_true rfl, Nat.le_of_ble_eq_true rfl⟩ jw_C_bl (jw_C_of (hP.sub [3] rfl) (hK.sub [0, 1] rfl) (hD.sub [3] (by decide) rfl)) rfl hl.1 rfl (Nat.le_of_ble_eq_true rfl) d_C_init_20 ⟨Nat.le_of_ble_eq_true rfl, Nat.le_of_ble_eq_true rfl⟩) hP hD hS hA [3] [0, 1, 2] rfl rfl (by decide) (by decide) (fun u2 H locs hu2 hP hD hS => ?_)
  have hP : va_P D jw_cl [(q, .inr (0, [.int (nI 0), .ref n1, .null, .null, .int (nI 0), .int (nI 0), .int (nI 0), .int (nI 0)])), (n1, .inr (4, [.ref (u1 0), .int (nI 0)])), ((u1 0), .inl (cI, 68, .inl (fun _ => nI 0))), (n3, .inr (2, [.ref (u2 0), .ref (u2 1), .ref (u2 2), .int (nI 0)])), ((u2 0), .inl (cI, 68, .inl (fun _ => nI 0))), ((u2 1), .inl (cI, 68, .inl (fun _ => nI 0))), ((u2 2), .inl (cZ, 68, .inl (fun _ => nI 0)))] H := hP
  have hD : va_D A [(q, .inr (0, [.int (nI 0), .ref n1, .null, .null, .int (nI 0), .int (nI 0), .int (nI 0), .int (nI 0)])), (n1, .inr (4, [.ref (u1 0), .int (nI 0)])), ((u1 0), .inl (cI, 68, .inl (fun _ => nI 0))), (n3, .inr (2, [.ref (u2 0), .ref (u2 1), .ref (u2 2), .int (nI 0)])), ((u2 0), .inl (cI, 68, .inl (fun _ => nI 0))), ((u2 1), .inl (cI, 68, .inl (fun _ => nI 0))), ((u2 2), .inl (cZ, 68, .inl (fun _ => nI 0)))] := hD
  refine va_putF (D := D) (ci := 0) (v := .ref n3) (ty := .object "JointText$Log") (C := jn_C) (T := jf_C) (N := 8) hx hb ht ji_C jy_C jo_C jm_C hown hK hP hD hS 0 rfl rfl 2 (by decide) (ht _ k_C_21) (fun _ h9 => h9) rfl hin rfl (by decide +kernel) rfl rfl (Nat.le_of_ble_eq_true rfl) d_C_init_23 (fun H locs hP hD hS => ?_)
  have hP : va_P D jw_cl [(q, .inr (0, [.int (nI 0), .ref n1, .ref n3, .null, .int (nI 0), .int (nI 0), .int (nI 0), .int (nI 0)])), (n1, .inr (4, [.ref (u1 0), .int (nI 0)])), ((u1 0), .inl (cI, 68, .inl (fun _ => nI 0))), (n3, .inr (2, [.ref (u2 0), .ref (u2 1), .ref (u2 2), .int (nI 0)])), ((u2 0), .inl (cI, 68, .inl (fun _ => nI 0))), ((u2 1), .inl (cI, 68, .inl (fun _ => nI 0))), ((u2 2), .inl (cZ, 68, .inl (fun _ => nI 0)))] H := hP
  have hD : va_D A [(q, .inr (0, [.int (nI 0), .ref n1, .ref n3, .null, .int (nI 0), .int (nI 0), .int (nI 0), .int (nI 0)])), (n1, .inr (4, [.ref (u1 0), .int (nI 0)])), ((u1 0), .inl (cI, 68, .inl (fun _ => nI 0))), (n3, .inr (2, [.ref (u2 0), .ref (u2 1), .ref (u2 2), .int (nI 0)])), ((u2 0), .inl (cI, 68, .inl (fun _ => nI 0))), ((u2 1), .inl (cI, 68, .inl (fun _ => nI 0))), ((u2 2), .inl (cZ, 68, .inl (fun _ => nI 0)))] := hD
  refine lv_aload_n hx hb d_C_init_26 rfl (lv_at hl 0 rfl) ?_
  refine lv_bipush (v := nI 8) hx hb d_C_init_27 (by decide) ?_
  refine jN_newa (atype := .int) (cI := cI) (ty := .int) (a0 := (8, .inl (fun _ => nI 0))) hx hb (ht _ kN_i) rfl hK hP hD hS hA 0 rfl (fun cA h1 h2 => Option.some.inj (h1.symm.trans h2)) (fun _ => rfl) (nI_pos (by decide)) (nI_clamp (by decide)) (by decide) (Nat.le_of_ble_eq_true rfl) (Nat.le_of_ble_eq_true rfl) d_C_init_29 (fun n7 H hP hD hS => ?_)
  have hP : va_P D jw_cl [(q, .inr (0, [.int (nI 0), .ref n1, .ref n3, .null, .int (nI 0), .int (nI 0), .int (nI 0), .int (nI 0)])), (n1, .inr (4, [.ref (u1 0), .int (nI 0)])), ((u1 0), .inl (cI, 68, .inl (fun _ => nI 0))), (n3, .inr (2, [.ref (u2 0), .ref (u2 1), .ref (u2 2), .int (nI 0)])), ((u2 0), .inl (cI, 68, .inl (fun _ => nI 0))), ((u2 1), .inl (cI, 68, .inl (fun _ => nI 0))), ((u2 2), .inl (cZ, 68, .inl (fun _ => nI 0))), (n7, .inl (cI, 8, .inl (fun _ => nI 0)))] H := hP
  have hD : va_D A [(q, .inr (0, [.int (nI 0), .ref n1, .ref n3, .null, .int (nI 0), .int (nI 0), .int (nI 0), .int (nI 0)])), (n1, .inr (4, [.ref (u1 0), .int (nI 0)])), ((u1 0), .inl (cI, 68, .inl (fun _ => nI 0))), (n3, .inr (2, [.ref (u2 0), .ref (u2 1), .ref (u2 2), .int (nI 0)])), ((u2 0), .inl (cI, 68, .inl (fun _ => nI 0))), ((u2 1), .inl (cI, 68, .inl (fun _ => nI 0))), ((u2 2), .inl (cZ, 68, .inl (fun _ => nI 0))), (n7, .inl (cI, 8, .inl (fun _ => nI 0)))] := hD
  refine va_putF (D := D) (ci := 0) (v := .ref n7) (ty := .array .int) (C := jn_C) (T := jf_C) (N := 8) hx hb ht ji_C jy_C jo_C jm_C hown hK hP hD hS 0 rfl rfl 3 (by decide) (ht _ k_C_25) (fun _ h9 => h9) rfl hin rfl (by decide +kernel) rfl rfl (Nat.le_of_ble_eq_true rfl) d_C_init_31 (fun H locs hP hD hS => ?_)
  have hP : va_P D jw_cl [(q, .inr (0, [.int (nI 0), .ref n1, .ref n3, .ref n7, .int (nI 0), .int (nI 0), .int (nI 0), .int (nI 0)])), (n1, .inr (4, [.ref (u1 0), .int (nI 0)])), ((u1 0), .inl (cI, 68, .inl (fun _ => nI 0))), (n3, .inr (2, [.ref (u2 0), .ref (u2 1), .ref (u2 2), .int (nI 0)])), ((u2 0), .inl (cI, 68, .inl (fun _ => nI 0))), ((u2 1), .inl (cI, 68, .inl (fun _ => nI 0))), ((u2 2), .inl (cZ, 68, .inl (fun _ => nI 0))), (n7, .inl (cI, 8, .inl (fun _ => nI 0)))] H := hP
  have hD : va_D A [(q, .inr (0, [.int (nI 0), .ref n1, .ref n3, .ref n7, .int (nI 0), .int (nI 0), .int (nI 0), .int (nI 0)])), (n1, .inr (4, [.ref (u1 0), .int (nI 0)])), ((u1 0), .inl (cI, 68, .inl (fun _ => nI 0))), (n3, .inr (2, [.ref (u2 0), .ref (u2 1), .ref (u2 2), .int (nI 0)])), ((u2 0), .inl (cI, 68, .inl (fun _ => nI 0))), ((u2 1), .inl (cI, 68, .inl (fun _ => nI 0))), ((u2 2), .inl (cZ, 68, .inl (fun _ => nI 0))), (n7, .inl (cI, 8, .inl (fun _ => nI 0)))] := hD
  refine lv_aload_n hx hb d_C_init_34 rfl (lv_at hl 0 rfl) ?_
  refine lv_iconst (v := nI 0) hx hb d_C_init_35 (by decide) ?_
  refine va_put (D := D) (ci := 0) (v := .int (nI 0)) (ty := .int) (C := jn_C) (T := jf_C) (N := 8) hx hb ht ji_C jy_C jo_C jm_C hown hK hP hD hS 0 rfl rfl 4 (by decide) (ht _ k_C_29) (fun _ h9 => h9) rfl (by decide +kernel) rfl rfl (Nat.le_of_ble_eq_true rfl) d_C_init_36 (fun H locs hP hD hS => ?_)
  have hP : va_P D jw_cl [(q, .inr (0, [.int (nI 0), .ref n1, .ref n3, .ref n7, .int (nI 0), .int (nI 0), .int (nI 0), .int (nI 0)])), (n1, .inr (4, [.ref (u1 0), .int (nI 0)])), ((u1 0), .inl (cI, 68, .inl (fun _ => nI 0))), (n3, .inr (2, [.ref (u2 0), .ref (u2 1), .ref (u2 2), .int (nI 0)])), ((u2 0), .inl (cI, 68, .inl (fun _ => nI 0))), ((u2 1), .inl (cI, 68, .inl (fun _ => nI 0))), ((u2 2), .inl (cZ, 68, .inl (fun _ => nI 0))), (n7, .inl (cI, 8, .inl (fun _ => nI 0)))] H := hP
  have hD : va_D A [(q, .inr (0, [.int (nI 0), .ref n1, .ref n3, .ref n7, .int (nI 0), .int (nI 0), .int (nI 0), .int (nI 0)])), (n1, .inr (4, [.ref (u1 0), .int (nI 0)])), ((u1 0), .inl (cI, 68, .inl (fun _ => nI 0))), (n3, .inr (2, [.ref (u2 0), .ref (u2 1), .ref (u2 2), .int (nI 0)])), ((u2 0), .inl (cI, 68, .inl (fun _ => nI 0))), ((u2 1), .inl (cI, 68, .inl (fun _ => nI 0))), ((u2 2), .inl (cZ, 68, .inl (fun _ => nI 0))), (n7, .inl (cI, 8, .inl (fun _ => nI 0)))] := hD
  refine lv_aload_n hx hb d_C_init_39 rfl (lv_at hl 0 rfl) ?_
  refine lv_iconst (v := nI 0) hx hb d_C_init_40 (by decide) ?_
  refine va_put (D := D) (ci := 0) (v := .int (nI 0)) (ty := .int) (C := jn_C) (T := jf_C) (N := 8) hx hb ht ji_C jy_C jo_C jm_C hown hK hP hD hS 0 rfl rfl 5 (by decide) (ht _ k_C_33) (fun _ h9 => h9) rfl (by decide +kernel) rfl rfl (Nat.le_of_ble_eq_true rfl) d_C_init_41 (fun H locs hP hD hS => ?_)
  have hP : va_P D jw_cl [(q, .inr (0, [.int (nI 0), .ref n1, .ref n3, .ref n7, .int (nI 0), .int (nI 0), .int (nI 0), .int (nI 0)])), (n1, .inr (4, [.ref (u1 0), .int (nI 0)])), ((u1 0), .inl (cI, 68, .inl (fun _ => nI 0))), (n3, .inr (2, [.ref (u2 0), .ref (u2 1), .ref (u2 2), .int (nI 0)])), ((u2 0), .inl (cI, 68, .inl (fun _ => nI 0))), ((u2 1), .inl (cI, 68, .inl (fun _ => nI 0))), ((u2 2), .inl (cZ, 68, .inl (fun _ => nI 0))), (n7, .inl (cI, 8, .inl (fun _ => nI 0)))] H := hP
  have hD : va_D A [(q, .inr (0, [.int (nI 0), .ref n1, .ref n3, .ref n7, .int (nI 0), .int (nI 0), .int (nI 0), .int (nI 0)])), (n1, .inr (4, [.ref (u1 0), .int (nI 0)])), ((u1 0), .inl (cI, 68, .inl (fun _ => nI 0))), (n3, .inr (2, [.ref (u2 0), .ref (u2 1), .ref (u2 2), .int (nI 0)])), ((u2 0), .inl (cI, 68, .inl (fun _ => nI 0))), ((u2 1), .inl (cI, 68, .inl (fun _ => nI 0))), ((u2 2), .inl (cZ, 68, .inl (fun _ => nI 0))), (n7, .inl (cI, 8, .inl (fun _ => nI 0)))] := hD
  refine lv_aload_n hx hb d_C_init_44 rfl (lv_at hl 0 rfl) ?_
  refine lv_iconst (v := nI 0) hx hb d_C_init_45 (by decide) ?_
  refine va_put (D := D) (ci := 0) (v := .int (nI 0)) (ty := .int) (C := jn_C) (T := jf_C) (N := 8) hx hb ht ji_C jy_C jo_C jm_C hown hK hP hD hS 0 rfl rfl 6 (by decide) (ht _ k_C_36) (fun _ h9 => h9) rfl (by decide +kernel) rfl rfl (Nat.le_of_ble_eq_true rfl) d_C_init_46 (fun H locs hP hD hS => ?_)
  have hP : va_P D jw_cl [(q, .inr (0, [.int (nI 0), .ref n1, .ref n3, .ref n7, .int (nI 0), .int (nI 0), .int (nI 0), .int (nI 0)])), (n1, .inr (4, [.ref (u1 0), .int (nI 0)])), ((u1 0), .inl (cI, 68, .inl (fun _ => nI 0))), (n3, .inr (2, [.ref (u2 0), .ref (u2 1), .ref (u2 2), .int (nI 0)])), ((u2 0), .inl (cI, 68, .inl (fun _ => nI 0))), ((u2 1), .inl (cI, 68, .inl (fun _ => nI 0))), ((u2 2), .inl (cZ, 68, .inl (fun _ => nI 0))), (n7, .inl (cI, 8, .inl (fun _ => nI 0)))] H := hP
  have hD : va_D A [(q, .inr (0, [.int (nI 0), .ref n1, .ref n3, .ref n7, .int (nI 0), .int (nI 0), .int (nI 0), .int (nI 0)])), (n1, .inr (4, [.ref (u1 0), .int (nI 0)])), ((u1 0), .inl (cI, 68, .inl (fun _ => nI 0))), (n3, .inr (2, [.ref (u2 0), .ref (u2 1), .ref (u2 2), .int (nI 0)])), ((u2 0), .inl (cI, 68, .inl (fun _ => nI 0))), ((u2 1), .inl (cI, 68, .inl (fun _ => nI 0))), ((u2 2), .inl (cZ, 68, .inl (fun _ => nI 0))), (n7, .inl (cI, 8, .inl (fun _ => nI 0)))] := hD
  refine lv_aload_n hx hb d_C_init_49 rfl (lv_at hl 0 rfl) ?_
  refine lv_iconst (v := nI 1) hx hb d_C_init_50 (by decide) ?_
  refine va_put (D := D) (ci := 0) (v := .int (nI 1)) (ty := .boolean) (C := jn_C) (T := jf_C) (N := 8) hx hb ht ji_C jy_C jo_C jm_C hown hK hP hD hS 0 rfl rfl 7 (by decide) (ht _ k_C_39) (fun _ h9 => h9) rfl (by decide +kernel) rfl rfl (Nat.le_of_ble_eq_true rfl) d_C_init_51 (fun H locs hP hD hS => ?_)
  have hP : va_P D jw_cl [(q, .inr (0, [.int (nI 0), .ref n1, .ref n3, .ref n7, .int (nI 0), .int (nI 0), .int (nI 0), .int (nI 1)])), (n1, .inr (4, [.ref (u1 0), .int (nI 0)])), ((u1 0), .inl (cI, 68, .inl (fun _ => nI 0))), (n3, .inr (2, [.ref (u2 0), .ref (u2 1), .ref (u2 2), .int (nI 0)])), ((u2 0), .inl (cI, 68, .inl (fun _ => nI 0))), ((u2 1), .inl (cI, 68, .inl (fun _ => nI 0))), ((u2 2), .inl (cZ, 68, .inl (fun _ => nI 0))), (n7, .inl (cI, 8, .inl (fun _ => nI 0)))] H := hP
  have hD : va_D A [(q, .inr (0, [.int (nI 0), .ref n1, .ref n3, .ref n7, .int (nI 0), .int (nI 0), .int (nI 0), .int (nI 1)])), (n1, .inr (4, [.ref (u1 0), .int (nI 0)])), ((u1 0), .inl (cI, 68, .inl (fun _ => nI 0))), (n3, .inr (2, [.ref (u2 0), .ref (u2 1), .ref (u2 2), .int (nI 0)])), ((u2 0), .inl (cI, 68, .inl (fun _ => nI 0))), ((u2 1), .inl (cI, 68, .inl (fun _ => nI 0))), ((u2 2), .inl (cZ, 68, .inl (fun _ => nI 0))), (n7, .inl (cI, 8, .inl (fun _ => nI 0)))] := hD
  refine lv_aload_n hx hb d_C_init_54 rfl (lv_at hl 0 rfl) ?_
  refine lv_iload_n hx hb d_C_init_55 rfl (lv_at hl 1 rfl) ?_
  refine va_putF (D := D) (ci := 0) (v := .int (nI c0)) (ty := .int) (C := jn_C) (T := jf_C) (N := 8) hx hb ht ji_C jy_C jo_C jm_C hown hK hP hD hS 0 rfl rfl 0 (by decide) (ht _ k_C_43) (fun _ h9 => h9) rfl hin rfl (by decide +kernel) rfl rfl (Nat.le_of_ble_eq_true rfl) d_C_init_56 (fun H locs hP hD hS => ?_)
  have hP : va_P D jw_cl [(q, .inr (0, [.int (nI c0), .ref n1, .ref n3, .ref n7, .int (nI 0), .int (nI 0), .int (nI 0), .int (nI 1)])), (n1, .inr (4, [.ref (u1 0), .int (nI 0)])), ((u1 0), .inl (cI, 68, .inl (fun _ => nI 0))), (n3, .inr (2, [.ref (u2 0), .ref (u2 1), .ref (u2 2), .int (nI 0)])), ((u2 0), .inl (cI, 68, .inl (fun _ => nI 0))), ((u2 1), .inl (cI, 68, .inl (fun _ => nI 0))), ((u2 2), .inl (cZ, 68, .inl (fun _ => nI 0))), (n7, .inl (cI, 8, .inl (fun _ => nI 0)))] H := hP
  have hD : va_D A [(q, .inr (0, [.int (nI c0), .ref n1, .ref n3, .ref n7, .int (nI 0), .int (nI 0), .int (nI 0), .int (nI 1)])), (n1, .inr (4, [.ref (u1 0), .int (nI 0)])), ((u1 0), .inl (cI, 68, .inl (fun _ => nI 0))), (n3, .inr (2, [.ref (u2 0), .ref (u2 1), .ref (u2 2), .int (nI 0)])), ((u2 0), .inl (cI, 68, .inl (fun _ => nI 0))), ((u2 1), .inl (cI, 68, .inl (fun _ => nI 0))), ((u2 2), .inl (cZ, 68, .inl (fun _ => nI 0))), (n7, .inl (cI, 8, .inl (fun _ => nI 0)))] := hD
  exact W.vret hx hb hr (fun t9 ht9 hW9 => ⟨⟨(fun i => ([n1, (u1 0), n3, (u2 0), (u2 1), (u2 2), n7] : List Nat).getD i 0), rfl, trivial, by rw [ht9]; exact hP, hD⟩, hS.F ht9⟩) hS.2.2 d_C_init_59
