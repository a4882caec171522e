/-! One list of words for all methods: the tables' words that stay true as the tables warm. -/
def jw_tbl : List Cond := lw_tbl.filter goodWord
theorem jw_in {w : Cond} (i : Nat) (h : lw_tbl[i]? = some w) (hg : goodWord w = true) : w ∈ jw_tbl := List.mem_filter.mpr ⟨List.mem_of_getElem? h, hg⟩
theorem jw_gd {w : Cond} (h : w ∈ jw_tbl) : (w.onTables && w.keeps) = true ∨ ∃ ty, w = .arrayClass ty := good_of_word (List.mem_filter.mp h).2
theorem jw_GI {y : MethodName} {b : ByteArray} {n : Nat} {r : Option FieldType} (h : Cond.code y b n r ∈ jw_tbl) : GoodIn jw_tbl (Cond.code y b n r :: jw_tbl) := fun w hw => by
  rcases List.mem_cons.mp hw with e | hw
  · rw [e]; exact ⟨h, jw_gd h⟩
  · exact ⟨hw, jw_gd hw⟩
/-- what the tables say of a callee: of an instance, static, a constructor -/
abbrev jw_OV (y : MethodName) (bytes : ByteArray) (maxL : Nat) (ret : Option FieldType) (n : Nat) : Prop :=
  Cond.instanceMethod y ∈ jw_tbl ∧ Cond.selects y.cls y y ∈ jw_tbl ∧ Cond.initialized y.cls ∈ jw_tbl ∧ Cond.code y bytes maxL ret ∈ jw_tbl ∧ y.cls ≠ "java/lang/invoke/MethodHandle" ∧ y.cls ≠ "java/lang/invoke/VarHandle" ∧ (parseMethodDescriptor y.desc).map (fun d => d.parameters.length) = some n
abbrev jw_OS (y : MethodName) (bytes : ByteArray) (maxL : Nat) (ret : Option FieldType) (n : Nat) : Prop :=
  Cond.static y ∈ jw_tbl ∧ Cond.initialized y.cls ∈ jw_tbl ∧ Cond.code y bytes maxL ret ∈ jw_tbl ∧ y.cls ≠ "java/lang/invoke/MethodHandle" ∧ y.cls ≠ "java/lang/invoke/VarHandle" ∧ (parseMethodDescriptor y.desc).map (fun d => d.parameters.length) = some n
abbrev jw_OI (y : MethodName) (bytes : ByteArray) (maxL : Nat) (n : Nat) : Prop :=
  Cond.instanceMethod y ∈ jw_tbl ∧ Cond.initialized y.cls ∈ jw_tbl ∧ Cond.code y bytes maxL none ∈ jw_tbl ∧ y.name = "<init>" ∧ y.cls ≠ "java/lang/invoke/MethodHandle" ∧ y.cls ≠ "java/lang/invoke/VarHandle" ∧ (parseMethodDescriptor y.desc).map (fun d => d.parameters.length) = some n
/-- a contract's start: its arguments, its cells -/
def jw_P (av : List Value) (D : va_G) (cl : List vw_C) (wc : va_W) (tyc : List (ClassId × FieldType)) : Array Value → State → Prop := va_Pc av (fun U => va_P D cl wc U.heap ∧ va_K D cl tyc U)
theorem jw_P_bl {av : List Value} {D : va_G} {cl : List vw_C} {wc : va_W} {tyc : List (ClassId × FieldType)} : FrameBlind (jw_P av D cl wc tyc) := fun a U g mk q => ⟨q.1, q.2.1, va_K.moved (u := U) (U := U.calling g mk a) (Vm.Alike.refl U.vm) q.2.2⟩
theorem jw_P_of {av : List Value} {D : va_G} {cl : List vw_C} {wc : va_W} {tyc : List (ClassId × FieldType)} {s : State} {H : Heap} (hP : va_P D cl wc H) (hK : va_K D cl tyc s) : ∀ U : State, U.heap = H → s.WarmedH U.vm → jw_P av D cl wc tyc av.toArray U := fun U hU hW => ⟨rfl, by rw [hU]; exact hP, va_K.moved hW.alike hK⟩
/-- ... of one that changes its cells -/
def jw_C (av : List Value) (D : va_G) (cl : List vw_C) (wc : va_W) (tyc : List (ClassId × FieldType)) (sz : Nat) : Array Value → State → Prop := va_Pc av (fun U => U.heap.size = sz ∧ va_P D cl wc U.heap ∧ va_K D cl tyc U ∧ va_D (fun _ => True) wc)
theorem jw_C_bl {av : List Value} {D : va_G} {cl : List vw_C} {wc : va_W} {tyc : List (ClassId × FieldType)} {sz : Nat} : FrameBlind (jw_C av D cl wc tyc sz) := fun a U g mk q => ⟨q.1, q.2.1, q.2.2.1, va_K.moved (u := U) (U := U.calling g mk a) (Vm.Alike.refl U.vm) q.2.2.2.1, q.2.2.2.2⟩
theorem jw_C_of {av : List Value} {D : va_G} {cl : List vw_C} {wc : va_W} {tyc : List (ClassId × FieldType)} {s : State} {H : Heap} {A : Nat → Prop} (hP : va_P D cl wc H) (hK : va_K D cl tyc s) (hD : va_D A wc) : ∀ U : State, U.heap = H → s.WarmedH U.vm → jw_C av D cl wc tyc H.size av.toArray U := fun U hU hW => ⟨rfl, by rw [hU], by rw [hU]; exact hP, va_K.moved hW.alike hK, hD.weaken (fun _ _ _ _ => trivial)⟩
/-- what is behind it: the cells as 'w1' says them -/
def jw_B {S : Type} (D : va_G) (cl : List vw_C) (A : Nat → Prop) (w1 : S → va_W) : S → State → Prop := fun u t => va_P D cl (w1 u) t.heap ∧ va_D A (w1 u)
section JW
variable {p : Program} {l : Launch} {e : Env} {R : Room} {s : State} {m : MethodId} {args : Array Value} {below : List Frame} {meth : Method} {c : Code} {H : Heap} {locs : List Loc} {cells slots : Nat} {Q : State → Prop}
variable {y : MethodName} {bytes cc : ByteArray} {maxL nL n index mc ms : Nat} {ret : Option FieldType} {rm : Room} {own : String} {b : Addr} {As rest st0 : List Value} {pc : Nat} {ls : Array Slot} {D : va_G} {cl : List vw_C} {wc ws wr : va_W} {tyc : List (ClassId × FieldType)} {r : Value} {A : Nat → Prop} {H0 : Heap}
theorem jw_cV (ht : ∀ w ∈ jw_tbl, w.before args s = true) (o : jw_OV y bytes maxL ret n) (hl : Cond.methodLink own index y ∈ jw_tbl) (hrc : rm.cells = mc) (hrs : rm.slots = ms) (hR : rm.frames + 1 ≤ R.frames ∧ 8 + (maxL + 11) + rm.locals ≤ R.locals) :
    CallW R s args own y.cls index y bytes maxL ret (Cond.code y bytes maxL ret :: jw_tbl) rm mc ms n := by
  obtain ⟨o1, o2, o3, o4, o5, o6, o7⟩ := o
  exact ⟨callB_of n ht (jw_GI o4) rfl hrc hrs (ht _ o3) (ht _ hl) ⟨o5, o6, o7⟩ hR, ht _ o1, ht _ o2⟩
theorem jw_cS (ht : ∀ w ∈ jw_tbl, w.before args s = true) (o : jw_OS y bytes maxL ret n) (hl : Cond.methodLink own index y ∈ jw_tbl) (hrc : rm.cells = mc) (hrs : rm.slots = ms) (hR : rm.frames + 1 ≤ R.frames ∧ 8 + (maxL + 11) + rm.locals ≤ R.locals) :
    CallB R s args own index y bytes maxL ret (Cond.code y bytes maxL ret :: jw_tbl) rm mc ms n ∧ (Cond.static y).before args s = true := by
  obtain ⟨o1, o3, o4, o5, o6, o7⟩ := o
  exact ⟨callB_of n ht (jw_GI o4) rfl hrc hrs (ht _ o3) (ht _ hl) ⟨o5, o6, o7⟩ hR, ht _ o1⟩
theorem jw_cI (ht : ∀ w ∈ jw_tbl, w.before args s = true) (o : jw_OI y bytes maxL n) (hl : Cond.methodLink own index y ∈ jw_tbl) (hrc : rm.cells = mc) (hrs : rm.slots = ms) (hR : rm.frames + 1 ≤ R.frames ∧ 8 + (maxL + 11) + rm.locals ≤ R.locals) :
    CallB R s args own index y bytes maxL none (Cond.code y bytes maxL none :: jw_tbl) rm mc ms n ∧ y.name = "<init>" ∧ (Cond.instanceMethod y).before args s = true := by
  obtain ⟨o1, o3, o4, oN, o5, o6, o7⟩ := o
  exact ⟨callB_of n ht (jw_GI o4) rfl hrc hrs (ht _ o3) (ht _ hl) ⟨o5, o6, o7⟩ hR, oN, ht _ o1⟩
/-- a call of a method that only reads, and answers r: nothing moves -/
theorem jw_rV (hx : p.tables.exec = Jvm.exec) (hb : c.code = cc) (hml : c.maxLocals = nL) (hown : s.vm.findClass own = some m.cls) (ht : ∀ w ∈ jw_tbl, w.before args s = true)
    (hM : Met l y (Cond.code y bytes maxL ret :: jw_tbl) rm (jw_P (.ref b :: As) D cl wc tyc) (k2_QcV r) 0 0 (fun _ => False)) (o : jw_OV y bytes maxL ret n) (hl : Cond.methodLink own index y ∈ jw_tbl) (hrc : rm.cells = 0) (hrs : rm.slots = 0) (hR : rm.frames + 1 ≤ R.frames ∧ 8 + (maxL + 11) + rm.locals ≤ R.locals)
    (hP : va_P D cl wc H) (hK : va_K D cl tyc s) (hcell : ∃ cellB : Cell, H[b]? = some cellB ∧ cellB.vm.isStatics = false ∧ s.vm.findClass y.cls = some cellB.cls) (hn : As.length = n) (hls : ls.size = nL) (hst : st0 = As.reverse ++ .ref b :: rest) (hW : (rest.map fun v => v.category).sum ≤ 8) (hdg : decode cc pc = .ok (.invokevirtual index, 3)) (hf : cells ≤ R.cells ∧ slots ≤ R.slots)
    (kk : W p l e R s m args below meth c H locs cells slots Q (F0 m (pc + 3) ls (r :: rest))) : W p l e R s m args below meth c H locs cells slots Q (F0 m pc ls st0) :=
  W.callV (W.runV (Ts := jw_tbl) ⟨hx, hb, hml, hown, ht⟩ hM (jw_cV ht o hl hrc hrs hR) ⟨jw_P_bl, hcell, jw_P_of hP hK⟩ rfl hn hls hst (lv_room hW) hdg hf) kk
theorem jw_rS (hx : p.tables.exec = Jvm.exec) (hb : c.code = cc) (hml : c.maxLocals = nL) (hown : s.vm.findClass own = some m.cls) (ht : ∀ w ∈ jw_tbl, w.before args s = true)
    (hM : Met l y (Cond.code y bytes maxL ret :: jw_tbl) rm (jw_P As D cl wc tyc) (k2_QcV r) 0 0 (fun _ => False)) (o : jw_OS y bytes maxL ret n) (hl : Cond.methodLink own index y ∈ jw_tbl) (hrc : rm.cells = 0) (hrs : rm.slots = 0) (hR : rm.frames + 1 ≤ R.frames ∧ 8 + (maxL + 11) + rm.locals ≤ R.locals)
    (hP : va_P D cl wc H) (hK : va_K D cl tyc s) (hn : As.length = n) (hls : ls.size = nL) (hst : st0 = As.reverse ++ rest) (hW : (rest.map fun v => v.category).sum ≤ 8) (hdg : decode cc pc = .ok (.invokestatic index, 3)) (hf : cells ≤ R.cells ∧ slots ≤ R.slots)
    (kk : W p l e R s m args below meth c H locs cells slots Q (F0 m (pc + 3) ls (r :: rest))) : W p l e R s m args below meth c H locs cells slots Q (F0 m pc ls st0) :=
  W.callV (W.runS (Ts := jw_tbl) ⟨hx, hb, hml, hown, ht⟩ hM (jw_cS ht o hl hrc hrs hR) ⟨jw_P_bl, jw_P_of hP hK⟩ rfl hn hls hst (lv_room hW) hdg hf) kk
/-- a call of a method that changes its cells: what comes back beside the caller's other cells -/
theorem jw_jv {S : Type} {post : S → Prop} {w1 : S → va_W} {a : Array Value} (hr : va_Run p l e R s m args below meth c H locs cells slots mc ms (F0 m pc ls st0) rest (va_Qv post (jw_B D cl (va_A wc H.size) w1) (va_A wc H.size) a) (va_A wc H.size))
    (hP : va_P D cl ws H) (hD : va_D A ws) (hS : va_S A H0 H locs) (hA : ∀ q, H0.size ≤ q → A q) (isC isR : List Nat) (hC : isC.map (fun i => ws[i]?) = wc.map some) (hR : isR.map (fun i => ws[i]?) = wr.map some) (hn : va_nd isR = true) (hdis : ∀ i ∈ isR, i ∉ isC)
    (kk : ∀ (u : S) (H1 : Heap) (locs1 : List Loc), post u → va_P D cl (wr ++ w1 u) H1 → va_D A (wr ++ w1 u) → va_S A H0 H1 locs1 → W p l e R s m args below meth c H1 locs1 (cells + mc) (slots + ms) Q (F0 m (pc + 3) ls rest)) : W p l e R s m args below meth c H locs cells slots Q (F0 m pc ls st0) := by
  have hFc := va_free (wc := wc) hD hS hA isC hC
  refine va_callv hr hS (fun q _ h => hFc q h) hFc (fun u t H1 locs ht hvm hw hB hz1 hk1 hS => ?_)
  obtain ⟨hP1, hD1⟩ := hB
  rw [ht] at hP1
  obtain ⟨hP, hD⟩ := va_join (wr := wr) (w1 := w1 u) hP hD isC isR hC hR hn hdis hk1 hFc hP1 hD1
  exact kk u H1 locs hw hP hD hS
theorem jw_ji {S : Type} {post : Int32 → S → Prop} {w1 : S → va_W} {a : Array Value} (hr : va_Run p l e R s m args below meth c H locs cells slots mc ms (F0 m pc ls st0) rest (va_Qi post (jw_B D cl (va_A wc H.size) w1) (va_A wc H.size) a) (va_A wc H.size))
    (hP : va_P D cl ws H) (hD : va_D A ws) (hS : va_S A H0 H locs) (hA : ∀ q, H0.size ≤ q → A q) (isC isR : List Nat) (hC : isC.map (fun i => ws[i]?) = wc.map some) (hR : isR.map (fun i => ws[i]?) = wr.map some) (hn : va_nd isR = true) (hdis : ∀ i ∈ isR, i ∉ isC)
    (kk : ∀ (v : Int32) (u : S) (H1 : Heap) (locs1 : List Loc), post v u → va_P D cl (wr ++ w1 u) H1 → va_D A (wr ++ w1 u) → va_S A H0 H1 locs1 → W p l e R s m args below meth c H1 locs1 (cells + mc) (slots + ms) Q (F0 m (pc + 3) ls (.int v :: rest))) : W p l e R s m args below meth c H locs cells slots Q (F0 m pc ls st0) := by
  have hFc := va_free (wc := wc) hD hS hA isC hC
  refine va_calli hr hS (fun q _ h => hFc q h) hFc (fun v u t H1 locs ht hvm hw hB hz1 hk1 hS => ?_)
  obtain ⟨hP1, hD1⟩ := hB
  rw [ht] at hP1
  obtain ⟨hP, hD⟩ := va_join (wr := wr) (w1 := w1 u) hP hD isC isR hC hR hn hdis hk1 hFc hP1 hD1
  exact kk v u H1 locs hw hP hD hS
/-- the run of such a call -/
theorem jw_uV {Qc : Array Value → State → Outcome → State → Prop} {free : Addr → Prop} (hx : p.tables.exec = Jvm.exec) (hb : c.code = cc) (hml : c.maxLocals = nL) (hown : s.vm.findClass own = some m.cls) (ht : ∀ w ∈ jw_tbl, w.before args s = true)
    (hM : Met l y (Cond.code y bytes maxL ret :: jw_tbl) rm (jw_C (.ref b :: As) D cl wc tyc H.size) Qc mc ms free) (o : jw_OV y bytes maxL ret n) (hl : Cond.methodLink own index y ∈ jw_tbl) (hrc : rm.cells = mc) (hrs : rm.slots = ms) (hR : rm.frames + 1 ≤ R.frames ∧ 8 + (maxL + 11) + rm.locals ≤ R.locals)
    (hP : va_P D cl wc H) (hK : va_K D cl tyc s) (hD : va_D A wc) (hcell : ∃ cellB : Cell, H[b]? = some cellB ∧ cellB.vm.isStatics = false ∧ s.vm.findClass y.cls = some cellB.cls) (hn : As.length = n) (hls : ls.size = nL) (hst : st0 = As.reverse ++ .ref b :: rest) (hW : (rest.map fun v => v.category).sum ≤ 8) (hdg : decode cc pc = .ok (.invokevirtual index, 3)) (hf : cells + mc ≤ R.cells ∧ slots + ms ≤ R.slots) :
    va_Run p l e R s m args below meth c H locs cells slots mc ms (F0 m pc ls st0) rest (Qc (Value.ref b :: As).toArray) free :=
  va_runV (Ts := jw_tbl) ⟨hx, hb, hml, hown, ht⟩ hM (jw_cV ht o hl hrc hrs hR) ⟨jw_C_bl, hcell, jw_C_of hP hK hD⟩ rfl hn hls hst (lv_room hW) hdg hf
end JW
