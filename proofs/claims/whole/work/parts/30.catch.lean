section JTC
variable {p : Program} {l : Launch} {e : Env} {R : Room} {s : State} {m : MethodId} {args : Array Value} {below : List Frame} {meth : Method} {c : Code} {H : Heap} {locs : List Loc} {cells slots : Nat} {Q : State → Prop}
variable {y : MethodName} {bytes cc : ByteArray} {maxL nL n index mc ms : Nat} {ret : Option FieldType} {rm : Room} {own : String} {b : Addr} {As rest st0 : List Value} {pc : Nat} {ls : Array Slot} {Pc : Array Value → State → Prop} {Qc : Array Value → State → Outcome → State → Prop} {free : Addr → Prop}
set_option maxHeartbeats 1000000 in
/-- a call whose callee throws an X, which a row of the caller's own table catches, behind rows that are passed -/
theorem jT_call {X : String} (hx : p.tables.exec = Jvm.exec) (hb : c.code = cc) (hml : c.maxLocals = nL) (hown : s.vm.findClass own = some m.cls) (ht : ∀ w ∈ jw_tbl, w.before args s = true)
    (hM : jT_Met l y (Cond.code y bytes maxL ret :: jw_tbl) rm Pc X) (o : jw_OV y bytes maxL ret n) (hl : Cond.methodLink own index y ∈ jw_tbl) (hrc : rm.cells = 1) (hrs : rm.slots = 6) (hR : rm.frames + 1 ≤ R.frames ∧ 8 + (maxL + 11) + rm.locals ≤ R.locals)
    (hbl : FrameBlind Pc) (hPc : ∀ U : State, U.heap = H → s.WarmedH U.vm → Pc (Value.ref b :: As).toArray U) (hcell : ∃ cellB : Cell, H[b]? = some cellB ∧ cellB.vm.isStatics = false ∧ s.vm.findClass y.cls = some cellB.cls) (hn : As.length = n) (hls : ls.size = nL) (hst : st0 = As.reverse ++ .ref b :: rest) (hW : (rest.map fun v => v.category).sum ≤ 8) (hdg : decode cc pc = .ok (.invokevirtual index, 3)) (hf : cells + 1 ≤ R.cells ∧ slots + 6 ≤ R.slots)
    (pre : List ExceptionTableEntry) (x : ExceptionTableEntry) (post : List ExceptionTableEntry) (hsplit : c.exceptionTable.toList = pre ++ x :: post)
    (hpass : ∀ z ∈ pre, z.catchType ≠ 0 ∧ ∃ name, (Cond.classLink own z.catchType name).before args s = true ∧ (Cond.not (.castable X name)).before args s = true)
    (hcov : covers x pc = true) (h0 : x.catchType ≠ 0) (hlk : (Cond.classLink own x.catchType X).before args s = true) (hca : (Cond.castable X X).before args s = true)
    (kk : ∀ (a : Addr) (H1 : Heap), (∀ (q : Nat) (c : Cell), H[q]? = some c → H1[q]? = some c) → W p l e R s m args below meth c H1 locs (cells + 1) (slots + 6) Q (F0 m x.handlerPc ls [.ref a])) : W p l e R s m args below meth c H locs cells slots Q (F0 m pc ls st0) := by
  intro T hT X0
  obtain ⟨⟨-, -, hfr, hlo, hws, hcw, hcode, hini, hy, hlen, hl'⟩, hin, hse⟩ := jw_cV ht o hl hrc hrs hR
  have hK : BackT l R p e below s args y 3 8 (PreOf R 1 6 Pc) (fun A a v B => ∃ (g : JFrame) (mk : MethodId) (t : State), B.U.heap = t.heap ∧ jT_Q X a (A.U.calling g mk a) (.threw v) t ∧ B.locs = A.locs ∧ B.cells = A.cells + 1 ∧ B.slots = A.slots + 6) := by
    refine BackT.of_free (S := headSpec (Cond.code y bytes maxL ret :: jw_tbl) rm) (P := Pc) (K := fun _ _ _ _ _ => True) (Q := fun a st o t => jT_Q X a st o t ∧ FrameEndT st o t [] 1 6) (bytes := bytes) (maxL := maxL) (ret := ret)
      (E := fun a st o t L k n => L = [] ∧ k = 1 ∧ n = 6) hM hfr hlo ?_ ?_ (fun _ _ _ _ _ _ _ _ _ => trivial) ?_ ?_
    · intro m meth c A a X hp
      exact ⟨atoms_intro fun w hw => hws w hw _ _ X.warmed, hws _ hcw _ _ X.warmed, word_at X.warmed (Or.inl (by first | rfl | simp [Cond.onTables, Cond.keeps, Cond.steady])) hini, by rw [show (headSpec (Cond.code y bytes maxL ret :: jw_tbl) rm).room.cells = 1 from hrc]; exact hp.1, by rw [show (headSpec (Cond.code y bytes maxL ret :: jw_tbl) rm).room.slots = 6 from hrs]; exact hp.2.1⟩
    · intro m meth c A a g mk X hp
      exact hbl _ _ _ _ hp.2.2
    · intro a st o t h
      exact ⟨[], 1, 6, h.2, rfl, rfl, rfl⟩
    · intro m meth c A a g mk v t L k n X hp hq hF ⟨e0, e1, e2⟩
      subst e0; subst e1; subst e2
      exact ⟨g, mk, t, rfl, hq.1, List.append_nil _, rfl, rfl⟩
  obtain ⟨cellB, hcB, hoB, hclB⟩ := hcell
  obtain ⟨mk, methM, hnamed, hmethM, hstM, habM⟩ := Cond.instanceMethod_spec hin
  obtain ⟨methM', cM, hmethM', -, -, -, -, -, -, hsigM⟩ := Cond.code_spec hnamed hcode
  cases hmethM.symm.trans hmethM'
  obtain ⟨c2, r2, m2, q1, q2, q3, q4, kP, hkP, hkPi⟩ := Cond.selects_spec hse
  cases hclB.symm.trans q1
  cases (State.methodFound?_of_named hnamed hy).symm.trans q2
  cases hnamed.symm.trans q3
  have hselP : selectMethod e.platform s.vm cellB.cls mk = .method mk := by rw [Launch.admits_selectMethod X0.admits]; exact q4
  obtain ⟨vm₁, X₁, hstep₁⟩ := X0.invokevirtual hx hown hl' hnamed hmethM hstM hkP hkPi hy (a := b) (cell := cellB) (by rw [hT]; exact hcB)
    (fun z h => by rw [h] at hoB; cases hoB) hselP hmethM habM hkP hkPi (g := F0 m pc ls st0) rfl (argsL := As) (rest := rest) (hn.trans (hlen _ hsigM)) hst (by rw [hb]; exact hdg)
  obtain ⟨v, ⟨U', l2, c2, s2⟩, X', ⟨g', mk', t, e1, ⟨a, cell, ha, hce, hobj, hfc, hkeep⟩, e2, e3, e4⟩, hsteps⟩ := hK m meth c ⟨T.setVm vm₁, locs, cells, slots⟩ (F0 m pc ls rest) (.invokevirtual index) mk (Value.ref b :: As).toArray X₁ rfl (hls.trans hml.symm) (by rw [hb]; exact hdg) (lv_room hW) (X₁.named hnamed) ⟨hf.1, hf.2, hPc (T.setVm vm₁) hT X₁.warmed⟩
  dsimp only [Pt.U, Pt.locs, Pt.cells, Pt.slots] at X' e1 e2 e3 e4 hsteps
  subst e2; subst e3; subst e4
  cases ha
  obtain ⟨c3, c4, hc3, hc4, hasg⟩ := Cond.castable_spec hca
  cases hc3.symm.trans hc4
  have hcc : cell.cls = c3 := by
    have h1 : (T.setVm vm₁).vm.findClass X = some cell.cls := hfc
    rw [X₁.warmed.alike.findClass] at h1
    exact Option.some.inj (h1.symm.trans hc3)
  obtain ⟨hend, hk0⟩ := X'.catches_of_link hown h0 hlk hc3 hasg
  have hpl : e.platform.magicAccessors = ({} : Platform).magicAccessors := by rw [X'.admits.platform]
  obtain ⟨vm', XV, stV⟩ := X'.thenCaughtThrough v (g := F0 m pc ls rest) rfl (s₀ := T.setTop (F0 m pc ls st0)) (hstep₁ _ fun acts => by rw [doInvoke_state]; exact hsteps) (cell := cell) (by rw [e1]; exact hce) hobj (by rw [hcc]; exact hk0) pre x post hsplit
    (fun z hz => by
      obtain ⟨z0, name, z1, z2⟩ := hpass z hz
      exact RowPassed.of_words hpl hown z0 z1 (by rw [hcc]; exact hc3) z2) hcov (by rw [hcc]; exact hend)
  obtain ⟨t2, a1, b1⟩ := kk v t.heap (fun q c0 hq => hkeep q c0 (by show T.heap[q]? = some c0; rw [hT]; exact hq)) (U'.setVm vm') e1 XV
  exact ⟨t2, stV.trans a1, b1⟩
/-- a method with handlers of its own: the contract out of the walk, which is handed the table -/
theorem jT_MetW {l : Launch} {ws ws' : List Cond} {hd : List (Nat × Nat × Nat × Nat)} (hy : plainName y.cls = true) (hw : ws = Cond.codeWith y cc maxL ret hd :: ws')
    (body : ∀ p e s m args below meth c s₁, BodyLoose p l y (headSpec ws rm) cc maxL ret e s m args below meth c s₁ → c.maxLocals = maxL → c.exceptionTable.toList.map (fun h => (h.startPc, h.endPc, h.handlerPc, h.catchType)) = hd → Pc args s →
      W p l e (headSpec ws rm).room s m args below meth c s.heap [] 0 0 (MQ below Qc args s mc ms free) (entryFrame m args maxL)) : Met l y ws rm Pc Qc mc ms free := by
  refine MetFree.of_bodyS (code := cc) (maxLocals := maxL) (ret := ret) hy ?_ ?_
  · intro args s m h hn
    obtain ⟨m', meth, c, h0, h1, h2, h3, h4, -, h5, h6, -⟩ := Cond.codeWith_spec (atoms_spec (ws := ws) h _ (by rw [hw]; exact List.mem_cons_self))
    cases hn.symm.trans h0
    exact ⟨meth, c, h1, h2, h3, h4, h5, h6⟩
  · intro p e s m args below meth c s₁ B hml hP _
    have hh0 : s₁.heap = s.heap := by rw [B.state]; rfl
    obtain ⟨m', meth', c', h0, h1, h2, -, -, h7, -, -, -⟩ := Cond.codeWith_spec (atoms_spec (ws := ws) B.pre _ (by rw [hw]; exact List.mem_cons_self))
    cases B.named.symm.trans h0
    cases h1.symm.trans B.method
    cases h2.symm.trans (Stand.of_body B).code
    obtain ⟨t, a1, o, b1, b2, b3⟩ := body p e s m args below meth c s₁ B hml h7 hP s₁ hh0 (Stand.of_body B)
    exact ⟨t, o, a1, b1, b2, ⟨b3.1, b3.2⟩⟩
abbrev jT_OS (y : MethodName) (bytes : ByteArray) (maxL : Nat) (ret : Option FieldType) (hd : List (Nat × Nat × Nat × Nat)) (n : Nat) : Prop :=
  Cond.static y ∈ jw_tbl ∧ Cond.initialized y.cls ∈ jw_tbl ∧ Cond.codeWith y bytes maxL ret hd ∈ jw_tbl ∧ y.cls ≠ "java/lang/invoke/MethodHandle" ∧ y.cls ≠ "java/lang/invoke/VarHandle" ∧ (parseMethodDescriptor y.desc).map (fun d => d.parameters.length) = some n
set_option maxHeartbeats 1000000 in
/-- a static call of a method with handlers -/
theorem jT_runS {hd : List (Nat × Nat × Nat × Nat)} (hx : p.tables.exec = Jvm.exec) (hb : c.code = cc) (hml : c.maxLocals = nL) (hown : s.vm.findClass own = some m.cls) (ht : ∀ w ∈ jw_tbl, w.before args s = true)
    (hM : Met l y (Cond.codeWith y bytes maxL ret hd :: jw_tbl) rm Pc Qc mc ms free) (o : jT_OS y bytes maxL ret hd n) (hl : Cond.methodLink own index y ∈ jw_tbl) (hrc : rm.cells = mc) (hrs : rm.slots = ms) (hR : rm.frames + 1 ≤ R.frames ∧ 8 + (maxL + 11) + rm.locals ≤ R.locals)
    (hbl : FrameBlind Pc) (hPc : ∀ U : State, U.heap = H → s.WarmedH U.vm → Pc As.toArray U) (hn : As.length = n) (hls : ls.size = nL) (hst : st0 = As.reverse ++ rest) (hW : (rest.map fun v => v.category).sum ≤ 8) (hdg : decode cc pc = .ok (.invokestatic index, 3)) (hf : cells + mc ≤ R.cells ∧ slots + ms ≤ R.slots) :
    va_Run p l e R s m args below meth c H locs cells slots mc ms (F0 m pc ls st0) rest (Qc As.toArray) free := by
  obtain ⟨o1, o3, o4, o5, o6, o7⟩ := o
  have hws : ∀ w ∈ (Cond.codeWith y bytes maxL ret hd :: jw_tbl), ∀ (a' : Array Value) (U : State), s.WarmedH U.vm → w.before a' U = true := fun w hw a' U hWU => by
    rcases List.mem_cons.mp hw with e | hw
    · rw [e]; exact word_at hWU (jw_gd o4) (ht _ o4)
    · exact word_at hWU (jw_gd hw) (ht _ hw)
  have hK : Back l R p e below s args y 3 8 (PreOf R mc ms Pc) (PostOf Qc mc ms free) := by
    refine Back.of_freeWith (handlers := hd) (S := headSpec (Cond.codeWith y bytes maxL ret hd :: jw_tbl) rm) (P := Pc) (K := fun _ _ _ _ _ => True) (Q := fun a st o t => Qc a st o t ∧ ∃ L, FrameEnd st o t L mc ms ∧ ∀ q ∈ L, free q.base) (bytes := bytes) (maxL := maxL) (ret := ret)
      (E := fun a st o t L k n => k = mc ∧ n = ms ∧ ∀ q ∈ L, free q.base) hM hR.1 hR.2 ?_ ?_ (fun _ _ _ _ _ _ _ _ _ => trivial) ?_ ?_
    · intro m meth c A a X hp
      exact ⟨atoms_intro fun w hw => hws w hw _ _ X.warmed, hws _ List.mem_cons_self _ _ X.warmed, word_at X.warmed (jw_gd o3) (ht _ o3), by rw [show (headSpec (Cond.codeWith y bytes maxL ret hd :: jw_tbl) rm).room.cells = mc from hrc]; exact hp.1, by rw [show (headSpec (Cond.codeWith y bytes maxL ret hd :: jw_tbl) rm).room.slots = ms from hrs]; exact hp.2.1⟩
    · intro m meth c A a g mk X hp
      exact hbl _ _ _ _ hp.2.2
    · intro a st o t ⟨hq, L, hF, hL⟩
      exact ⟨L, mc, ms, hF, rfl, rfl, hL⟩
    · intro m meth c A a g mk v t L k n X hp hq hF ⟨e1, e2, hL⟩
      subst e1; subst e2
      exact ⟨g, mk, t, L, rfl, rfl, hq.1, rfl, hL, rfl, rfl⟩
  intro T hT X
  obtain ⟨mk, methM, cM, hnamed, hmethM, -, -, -, -, -, -, hsigM⟩ := Cond.codeWith_spec (ht _ o4)
  have hstatic : methM.isStatic = true := Cond.static_spec hnamed hmethM (ht _ o1)
  obtain ⟨kP, hkP, -⟩ := className_of_methodNamed hnamed
  have hinitP : kP.init = .initialized := Cond.initialized_spec (findClass_of_methodNamed hnamed) hkP (ht _ o3)
  have hlen : As.length = methM.sig.parameters.length := by
    rw [hsigM] at o7
    exact hn.trans (Option.some.inj o7).symm
  obtain ⟨vm₁, X₁, hstep₁⟩ := X.invokestatic hx hown (ht _ hl) hnamed hmethM hstatic hkP hinitP ⟨o5, o6⟩ (g := F0 m pc ls st0) rfl (argsL := As) (rest := rest) hlen hst (by rw [hb]; exact hdg)
  obtain ⟨v, ⟨U', l2, c2, s2⟩, X', ⟨g', mk', t, L, e1, e2, hq, h1, hL, h2, h3⟩, hsteps⟩ := hK m meth c ⟨T.setVm vm₁, locs, cells, slots⟩ (F0 m pc ls rest) (.invokestatic index) mk As.toArray X₁ rfl (hls.trans hml.symm) (by rw [hb]; exact hdg) (lv_room hW) (X₁.named hnamed) ⟨hf.1, hf.2, hPc (T.setVm vm₁) hT X₁.warmed⟩
  dsimp only [Pt.U, Pt.locs, Pt.cells, Pt.slots] at X' e1 e2 h1 h2 h3 hsteps
  subst h1; subst h2; subst h3
  exact ⟨v, (T.setVm vm₁).calling g' mk' As.toArray, t, U', L, hT, X', hL, e1, e2, hq, fun target h => hstep₁ _ fun acts => by rw [doInvoke_state]; exact hsteps.trans h⟩
end JTC
