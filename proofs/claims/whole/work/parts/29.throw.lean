/-- what a method that throws leaves: an object of the class X, new; all that was there, as it was -/
def jT_Q (X : String) : Array Value → State → Outcome → State → Prop := fun _ st o t => ∃ (a : Addr) (cell : Cell), o = .threw a ∧ t.heap[a]? = some cell ∧ cell.vm.isStatics = false ∧ st.vm.findClass X = some cell.cls ∧ ∀ (q : Nat) (c : Cell), st.heap[q]? = some c → t.heap[q]? = some c
def jT_Met (l : Launch) (y : MethodName) (ws : List Cond) (rm : Room) (Pc : Array Value → State → Prop) (X : String) : Prop :=
  MetFree l y (headSpec ws rm) Pc (fun _ _ _ _ _ => True) (fun a st o t => jT_Q X a st o t ∧ FrameEndT st o t [] 1 6)
def jT_MQ (below : List Frame) (X : String) (a : Array Value) (s : State) : State → Prop := fun t => ∃ o, t.status = .running ∧ Ended t below o ∧ jT_Q X a s o t ∧ FrameEndT s o t [] 1 6
theorem jT_Met.ofW {l : Launch} {y : MethodName} {ws ws' : List Cond} {rm : Room} {Pc : Array Value → State → Prop} {X : String} {cc : ByteArray} {maxL : Nat} {ret : Option FieldType}
    (hy : plainName y.cls = true) (hw : ws = Cond.code y cc maxL ret :: ws')
    (body : ∀ p e s m args below meth c s₁, BodyLoose p l y (headSpec ws rm) cc maxL ret e s m args below meth c s₁ → c.maxLocals = maxL → c.exceptionTable.toList = [] → Pc args s →
      W p l e (headSpec ws rm).room s m args below meth c s.heap [] 0 0 (jT_MQ below X args s) (entryFrame m args maxL)) : jT_Met l y ws rm Pc X := by
  refine MetFree.of_bodyS (code := cc) (maxLocals := maxL) (ret := ret) hy ?_ ?_
  · intro args s m h hn
    obtain ⟨meth, c, h1, h2, h3, h4, h5, h6, -, -⟩ := Cond.code_spec hn (atoms_spec (ws := ws) h _ (by rw [hw]; exact List.mem_cons_self))
    exact ⟨meth, c, h1, h2, h3, h4, h5, h6⟩
  · intro p e s m args below meth c s₁ B hml hP _
    have hh0 : s₁.heap = s.heap := by rw [B.state]; rfl
    obtain ⟨meth', c', h1, h2, -, -, -, -, h7, -⟩ := Cond.code_spec B.named (atoms_spec (ws := ws) B.pre _ (by rw [hw]; exact List.mem_cons_self))
    cases h1.symm.trans B.method
    cases h2.symm.trans (Stand.of_body B).code
    have hex : c.exceptionTable.toList = [] := by
      have h8 : c.exceptionTable = #[] := by simpa using h7
      rw [h8]
    obtain ⟨t, a1, o, b1, b2, b3⟩ := body p e s m args below meth c s₁ B hml hex hP s₁ hh0 (Stand.of_body B)
    exact ⟨t, o, a1, b1, b2, ⟨b3.1, b3.2⟩⟩
section JT
variable {p : Program} {l : Launch} {e : Env} {R : Room} {s : State} {m : MethodId} {args : Array Value} {below : List Frame} {meth : Method} {c : Code} {H : Heap} {locs : List Loc} {cells slots : Nat} {Q : State → Prop}
theorem jT_same {U : State} {k n : Nat} (h : s.sameButNew ({ U with vm := s.vm } : State) [] k n) : ∀ (q : Nat) (c : Cell), s.heap[q]? = some c → U.heap[q]? = some c := by
  intro q c hq
  obtain ⟨c', h1, h2, h3, h4⟩ := h.2.2.2.2.2 q c hq
  have e : c'.slots = c.slots := by
    apply Array.ext_getElem?
    intro i
    exact h4 i (by simp)
  rw [e] at h2
  rw [h2] at h1
  exact h1
theorem jT_atoms {ic : Nat} {X : String} (ht : ∀ w ∈ jw_tbl, w.before args s = true) (hst : jT_st s) (hok : jT_ok ic X) : ∀ w ∈ Jvm.Bundle.ownAtoms0 "JointText" ic X jT_names, w.before args s = true := by
  intro w hw
  have h := List.all_eq_true.mp hok w hw
  simp only [Bool.or_eq_true, Bool.and_eq_true, decide_eq_true_eq] at h
  rcases h with ⟨h1, h2⟩ | h
  · exact ht w (List.mem_filter.mpr ⟨h1, h2⟩)
  · exact jT_args hst args w h
set_option maxHeartbeats 1000000 in
/-- 'throw new X()', with nothing changed before it -/
theorem jT_thr {cc : ByteArray} {pc ic inew : Nat} {ls : Array Slot} {X : String} (hx : p.tables.exec = Jvm.exec) (hb : c.code = cc) (hlf : l.flags = pinnedFlags ++ [noTraceFlag]) (hown : s.vm.findClass "JointText" = some m.cls) (ht : ∀ w ∈ jw_tbl, w.before args s = true)
    (hst : jT_st s) (hex : c.exceptionTable.toList = []) (hok : jT_ok ic X) (hfit : Jvm.Bundle.fit X = true) (hcl : Cond.classLink "JointText" inew X ∈ jw_tbl) (hin : Cond.instantiable X 6 ∈ jw_tbl) (hini : Cond.initialized X ∈ jw_tbl) (hls : ls.size = c.maxLocals)
    (hd0 : decode cc pc = .ok (.new inew, 3)) (hd1 : decode cc (pc + 3) = .ok (.dup, 1)) (hd2 : decode cc (pc + 4) = .ok (.invokespecial ic, 3)) (hd3 : decode cc (pc + 7) = .ok (.athrow, 1)) (hR : 1 ≤ R.cells ∧ 6 ≤ R.slots ∧ 6 ≤ R.frames ∧ 81 ≤ R.locals) (hlocks : meth.locks = false) :
    W p l e R s m args below meth c s.heap [] 0 0 (jT_MQ below X args s) (F0 m pc ls []) := by
  refine W.newc hx hb hown (ht _ hcl) (ht _ hin) (ht _ hini) rfl hd0 (by omega) (by omega) (fun cC kC h1 h2 h3 h4 => ?_)
  refine lv_dup hx hb hd1 rfl ?_
  intro T hT XT
  obtain ⟨U, st, hrun, hend, hWU, hsame, ce, hce, hoc⟩ := XT.ctorThrow0 hx (Launch.traces_off hlf XT.admits) (own := "JointText") (cls := X) (names := jT_names) (ic := ic) hown hfit (by decide) (jT_atoms ht hst hok) (fun x h => by cases h) (a := s.heap.size) h1 h2
    (by rw [hT]; simp [Jvm.freshCell]) (Nat.le_refl _) (g := F0 m (pc + 4) ls [.ref s.heap.size, .ref s.heap.size]) rfl hls rfl rfl (rest := []) rfl (by rw [hb]; exact hd2) (by rw [hb]; exact hd3) (by rw [hex]; intro x h; cases h) (by show 2 + 3 < _; omega) (by show 0 + 1 + 80 ≤ _; omega) hlocks
  exact ⟨U, st, .threw s.heap.size, hrun, hend, ⟨_, ce, rfl, hce, by rw [hoc.vm]; rfl, hoc.cls, jT_same hsame⟩, ⟨⟨_, rfl⟩, hWU, hsame⟩⟩
end JT
