/-! The law: calls beside the other world, arm by arm. -/
theorem jL_ndn : ∀ l : List Nat, l.Nodup → va_nd l = true
  | [], _ => rfl
  | a :: l, h => by
    rw [List.nodup_cons] at h
    simp only [va_nd, Bool.and_eq_true, decide_eq_true_eq]
    exact ⟨h.1, jL_ndn l h.2⟩
theorem jL_hC {wr wc : va_W} : ((List.range wc.length).map (· + wr.length)).map (fun i => (wr ++ wc)[i]?) = wc.map some := by
  apply List.ext_getElem?
  intro i
  by_cases h : i < wc.length
  · have e1 : (wr ++ wc)[i + wr.length]? = wc[i]? := by rw [List.getElem?_append_right (Nat.le_add_left _ _), Nat.add_sub_cancel]
    rw [List.getElem?_map, List.getElem?_map, List.getElem?_range h, List.getElem?_map, List.getElem?_eq_getElem h]
    show some ((wr ++ wc)[i + wr.length]?) = some (some wc[i])
    rw [e1, List.getElem?_eq_getElem h]
  · rw [List.getElem?_eq_none (by simp; omega), List.getElem?_eq_none (by simp; omega)]
theorem jL_hR {wr wc : va_W} : (List.range wr.length).map (fun i => (wr ++ wc)[i]?) = wr.map some := by
  apply List.ext_getElem?
  intro i
  by_cases h : i < wr.length
  · rw [List.getElem?_map, List.getElem?_range h, List.getElem?_map, List.getElem?_eq_getElem h]
    show some ((wr ++ wc)[i]?) = some (some wr[i])
    rw [List.getElem?_append_left h, List.getElem?_eq_getElem h]
  · rw [List.getElem?_eq_none (by simp; omega), List.getElem?_eq_none (by simp; omega)]
theorem jL_dis {wr wc : va_W} : ∀ i ∈ List.range wr.length, i ∉ (List.range wc.length).map (· + wr.length) := by
  intro i hi h
  rw [List.mem_range] at hi
  obtain ⟨j, -, hj⟩ := List.mem_map.mp h
  have hj : j + wr.length = i := hj
  omega
theorem jL_rP {D : va_G} {cl : List vw_C} {H : Heap} {a b : va_W} (h : va_P D cl (a ++ b) H) : va_P D cl (b ++ a) H := va_P.swap (a := []) (b := a) (c := b) h
theorem jL_rD {A : Nat → Prop} {a b : va_W} (h : va_D A (a ++ b)) : va_D A (b ++ a) := va_D.swap (a := []) (b := a) (c := b) h
theorem jL_2P {D : va_G} {cl : List vw_C} {H : Heap} {a b : va_W} (h : va_P D cl (a ++ b) H) : va_P D cl b H := h.by (fun k => a.length + k) (fun k q hk => by rw [List.getElem?_append_right (Nat.le_add_right _ _), Nat.add_sub_cancel_left]; exact hk)
theorem jL_2D {A : Nat → Prop} {a b : va_W} (h : va_D A (a ++ b)) : va_D A b := h.by (fun k => a.length + k) (fun k q hk => by rw [List.getElem?_append_right (Nat.le_add_right _ _), Nat.add_sub_cancel_left]; exact hk) (fun i j _ _ z => Nat.add_left_cancel z)
theorem jL_1P {D : va_G} {cl : List vw_C} {H : Heap} {a b : va_W} (h : va_P D cl (a ++ b) H) : va_P D cl a H := jL_2P (jL_rP h)
theorem jL_cP {D : va_G} {cl : List vw_C} {H : Heap} {o : Nat × va_E} {a b : va_W} (h : va_P D cl ((o :: a) ++ b) H) : va_P D cl ((b ++ [o]) ++ a) H := by rw [List.append_assoc]; exact jL_rP h
theorem jL_cD {A : Nat → Prop} {o : Nat × va_E} {a b : va_W} (h : va_D A ((o :: a) ++ b)) : va_D A ((b ++ [o]) ++ a) := by rw [List.append_assoc]; exact jL_rD h
theorem jL_oP {D : va_G} {cl : List vw_C} {H : Heap} {o : Nat × va_E} {a b : va_W} (h : va_P D cl ((b ++ [o]) ++ a) H) : va_P D cl ((o :: a) ++ b) H := by rw [List.append_assoc] at h; exact jL_rP h
theorem jL_oD {A : Nat → Prop} {o : Nat × va_E} {a b : va_W} (h : va_D A ((b ++ [o]) ++ a)) : va_D A ((o :: a) ++ b) := by rw [List.append_assoc] at h; exact jL_rD h
section JLW
variable {p : Program} {l : Launch} {e : Env} {R : Room} {s : State} {m : MethodId} {args : Array Value} {below : List Frame} {meth : Method} {c : Code} {H : Heap} {locs : List Loc} {cells slots : Nat} {Q : State → Prop}
variable {y : MethodName} {bytes cc : ByteArray} {maxL nL n index mc ms : Nat} {ret : Option FieldType} {own : String} {As rest st0 : List Value} {pc : Nat} {ls : Array Slot} {D : va_G} {cl : List vw_C} {A : Nat → Prop} {H0 : Heap} {wr wc wm : va_W}
variable {x xm oo : Nat} {f ad g : Nat → Nat} {cI cZ cG cC cJ : ClassId} {σ : jL_T} {τ : jL_U} {oc : Nat × va_E}
theorem jL_ji {S : Type} {post : Int32 → S → Prop} {w1 : S → va_W} {a : Array Value} (hr : va_Run p l e R s m args below meth c H locs cells slots mc ms (F0 m pc ls st0) rest (va_Qi post (jw_B D cl (va_A wc H.size) w1) (va_A wc H.size) a) (va_A wc H.size))
    (hP : va_P D cl (wr ++ wc) H) (hD : va_D A (wr ++ wc)) (hS : va_S A H0 H locs) (hA : ∀ q, H0.size ≤ q → A q)
    (kk : ∀ (v : Int32) (u : S) (H1 : Heap) (locs1 : List Loc), post v u → va_P D cl (wr ++ w1 u) H1 → va_D A (wr ++ w1 u) → va_S A H0 H1 locs1 → W p l e R s m args below meth c H1 locs1 (cells + mc) (slots + ms) Q (F0 m (pc + 3) ls (.int v :: rest))) : W p l e R s m args below meth c H locs cells slots Q (F0 m pc ls st0) :=
  jw_ji hr hP hD hS hA ((List.range wc.length).map (· + wr.length)) (List.range wr.length) jL_hC jL_hR (jL_ndn _ List.nodup_range) jL_dis kk
theorem jL_jv {S : Type} {post : S → Prop} {w1 : S → va_W} {a : Array Value} (hr : va_Run p l e R s m args below meth c H locs cells slots mc ms (F0 m pc ls st0) rest (va_Qv post (jw_B D cl (va_A wc H.size) w1) (va_A wc H.size) a) (va_A wc H.size))
    (hP : va_P D cl (wr ++ wc) H) (hD : va_D A (wr ++ wc)) (hS : va_S A H0 H locs) (hA : ∀ q, H0.size ≤ q → A q)
    (kk : ∀ (u : S) (H1 : Heap) (locs1 : List Loc), post u → va_P D cl (wr ++ w1 u) H1 → va_D A (wr ++ w1 u) → va_S A H0 H1 locs1 → W p l e R s m args below meth c H1 locs1 (cells + mc) (slots + ms) Q (F0 m (pc + 3) ls rest)) : W p l e R s m args below meth c H locs cells slots Q (F0 m pc ls st0) :=
  jw_jv hr hP hD hS hA ((List.range wc.length).map (· + wr.length)) (List.range wr.length) jL_hC jL_hR (jL_ndn _ List.nodup_range) jL_dis kk

theorem jL_cM (hx : p.tables.exec = Jvm.exec) (hb : c.code = cc) (hml : c.maxLocals = nL) (hown : s.vm.findClass own = some m.cls) (ht : ∀ w ∈ jw_tbl, w.before args s = true) {post : Int32 → jL_U → Prop} (hM : jL_MM l D xm g cI cZ y (Cond.code y bytes maxL ret :: jw_tbl) As τ post) (o : jw_OV y bytes maxL ret n) (hl : Cond.methodLink own index y ∈ jw_tbl) (hyc : y.cls = jn_M) (hR : 9 ≤ R.frames ∧ 8 + (maxL + 11) + 160 ≤ R.locals) (hP : va_P D jw_cl (wr ++ jL_MW xm g cI cZ τ) H) (hD : va_D A (wr ++ jL_MW xm g cI cZ τ)) (hS : va_S A H0 H locs) (hA : ∀ q, H0.size ≤ q → A q) (hK : va_K D jw_cl ([(cI, .int), (cZ, .boolean)]) s) (hn : As.length = n) (hls : ls.size = nL) (hst : st0 = As.reverse ++ .ref xm :: rest) (hW : (rest.map fun v => v.category).sum ≤ 8) (hdg : decode cc pc = .ok (.invokevirtual index, 3)) (hf : cells ≤ R.cells ∧ slots ≤ R.slots)
    (kk : ∀ (v : Int32) (τ' : jL_U) (H1 : Heap) (locs1 : List Loc), post v τ' → va_P D jw_cl (wr ++ jL_MW xm g cI cZ τ') H1 → va_D A (wr ++ jL_MW xm g cI cZ τ') → va_S A H0 H1 locs1 → W p l e R s m args below meth c H1 locs1 cells slots Q (F0 m (pc + 3) ls (.int v :: rest))) : W p l e R s m args below meth c H locs cells slots Q (F0 m pc ls st0) := by
  obtain ⟨rm, h1, h2, h3, h4, h5⟩ := hM
  have hP0 := jL_2P hP
  have hD0 := jL_2D hD
  exact jL_ji (jw_uV hx hb hml hown ht (h5 _) o hl h1 h2 ⟨by omega, by omega⟩ hP0 hK hD0 (by rw [hyc]; exact va_recv (q0 := 0) (ci := 6) hK hP0 rfl rfl) hn hls hst hW hdg ⟨hf.1, hf.2⟩) hP hD hS hA kk

theorem jL_cMV (hx : p.tables.exec = Jvm.exec) (hb : c.code = cc) (hml : c.maxLocals = nL) (hown : s.vm.findClass own = some m.cls) (ht : ∀ w ∈ jw_tbl, w.before args s = true) {post : jL_U → Prop} (hM : jL_MV l D xm g cI cZ y (Cond.code y bytes maxL ret :: jw_tbl) As τ post) (o : jw_OV y bytes maxL ret n) (hl : Cond.methodLink own index y ∈ jw_tbl) (hyc : y.cls = jn_M) (hR : 9 ≤ R.frames ∧ 8 + (maxL + 11) + 160 ≤ R.locals) (hP : va_P D jw_cl (wr ++ jL_MW xm g cI cZ τ) H) (hD : va_D A (wr ++ jL_MW xm g cI cZ τ)) (hS : va_S A H0 H locs) (hA : ∀ q, H0.size ≤ q → A q) (hK : va_K D jw_cl ([(cI, .int), (cZ, .boolean)]) s) (hn : As.length = n) (hls : ls.size = nL) (hst : st0 = As.reverse ++ .ref xm :: rest) (hW : (rest.map fun v => v.category).sum ≤ 8) (hdg : decode cc pc = .ok (.invokevirtual index, 3)) (hf : cells ≤ R.cells ∧ slots ≤ R.slots)
    (kk : ∀ (τ' : jL_U) (H1 : Heap) (locs1 : List Loc), post τ' → va_P D jw_cl (wr ++ jL_MW xm g cI cZ τ') H1 → va_D A (wr ++ jL_MW xm g cI cZ τ') → va_S A H0 H1 locs1 → W p l e R s m args below meth c H1 locs1 cells slots Q (F0 m (pc + 3) ls (rest))) : W p l e R s m args below meth c H locs cells slots Q (F0 m pc ls st0) := by
  obtain ⟨rm, h1, h2, h3, h4, h5⟩ := hM
  have hP0 := jL_2P hP
  have hD0 := jL_2D hD
  exact jL_jv (jw_uV hx hb hml hown ht (h5 _) o hl h1 h2 ⟨by omega, by omega⟩ hP0 hK hD0 (by rw [hyc]; exact va_recv (q0 := 0) (ci := 6) hK hP0 rfl rfl) hn hls hst hW hdg ⟨hf.1, hf.2⟩) hP hD hS hA kk

theorem jL_cX (hx : p.tables.exec = Jvm.exec) (hb : c.code = cc) (hml : c.maxLocals = nL) (hown : s.vm.findClass own = some m.cls) (ht : ∀ w ∈ jw_tbl, w.before args s = true) {post : Int32 → jL_T → Prop} (hM : jL_XM l D x f ad cI cZ cG cC 8 160 y (Cond.code y bytes maxL ret :: jw_tbl) As σ post) (o : jw_OV y bytes maxL ret n) (hl : Cond.methodLink own index y ∈ jw_tbl) (hyc : y.cls = jn_J) (hR : 9 ≤ R.frames ∧ 8 + (maxL + 11) + 160 ≤ R.locals) (hP : va_P D jw_cl ((oc :: jL_XW x f ad cI cZ cG cC σ) ++ wm) H) (hD : va_D A ((oc :: jL_XW x f ad cI cZ cG cC σ) ++ wm)) (hS : va_S A H0 H locs) (hA : ∀ q, H0.size ≤ q → A q) (hK : va_K D jw_cl (jL_ty cI cZ cG cC) s) (hn : As.length = n) (hls : ls.size = nL) (hst : st0 = As.reverse ++ .ref x :: rest) (hW : (rest.map fun v => v.category).sum ≤ 8) (hdg : decode cc pc = .ok (.invokevirtual index, 3)) (hf : cells ≤ R.cells ∧ slots ≤ R.slots)
    (kk : ∀ (v : Int32) (σ' : jL_T) (H1 : Heap) (locs1 : List Loc), post v σ' → va_P D jw_cl ((oc :: jL_XW x f ad cI cZ cG cC σ') ++ wm) H1 → va_D A ((oc :: jL_XW x f ad cI cZ cG cC σ') ++ wm) → va_S A H0 H1 locs1 → W p l e R s m args below meth c H1 locs1 cells slots Q (F0 m (pc + 3) ls (.int v :: rest))) : W p l e R s m args below meth c H locs cells slots Q (F0 m pc ls st0) := by
  obtain ⟨rm, h1, h2, h3, h4, h5⟩ := hM
  have hP := jL_cP hP
  have hD := jL_cD hD
  have hP0 := jL_2P hP
  have hD0 := jL_2D hD
  exact jL_ji (jw_uV hx hb hml hown ht (h5 _) o hl h1 h2 ⟨by omega, by omega⟩ hP0 hK hD0 (by rw [hyc]; exact va_recv (q0 := 0) (ci := 5) hK hP0 rfl rfl) hn hls hst hW hdg ⟨hf.1, hf.2⟩) hP hD hS hA (fun v u H1 locs1 hp hP hD hS => kk v u H1 locs1 hp (jL_oP hP) (jL_oD hD) hS)

theorem jL_cXV (hx : p.tables.exec = Jvm.exec) (hb : c.code = cc) (hml : c.maxLocals = nL) (hown : s.vm.findClass own = some m.cls) (ht : ∀ w ∈ jw_tbl, w.before args s = true) {post : jL_T → Prop} (hM : jL_XV l D x f ad cI cZ cG cC 8 160 y (Cond.code y bytes maxL ret :: jw_tbl) As σ post) (o : jw_OV y bytes maxL ret n) (hl : Cond.methodLink own index y ∈ jw_tbl) (hyc : y.cls = jn_J) (hR : 9 ≤ R.frames ∧ 8 + (maxL + 11) + 160 ≤ R.locals) (hP : va_P D jw_cl ((oc :: jL_XW x f ad cI cZ cG cC σ) ++ wm) H) (hD : va_D A ((oc :: jL_XW x f ad cI cZ cG cC σ) ++ wm)) (hS : va_S A H0 H locs) (hA : ∀ q, H0.size ≤ q → A q) (hK : va_K D jw_cl (jL_ty cI cZ cG cC) s) (hn : As.length = n) (hls : ls.size = nL) (hst : st0 = As.reverse ++ .ref x :: rest) (hW : (rest.map fun v => v.category).sum ≤ 8) (hdg : decode cc pc = .ok (.invokevirtual index, 3)) (hf : cells ≤ R.cells ∧ slots ≤ R.slots)
    (kk : ∀ (σ' : jL_T) (H1 : Heap) (locs1 : List Loc), post σ' → va_P D jw_cl ((oc :: jL_XW x f ad cI cZ cG cC σ') ++ wm) H1 → va_D A ((oc :: jL_XW x f ad cI cZ cG cC σ') ++ wm) → va_S A H0 H1 locs1 → W p l e R s m args below meth c H1 locs1 cells slots Q (F0 m (pc + 3) ls (rest))) : W p l e R s m args below meth c H locs cells slots Q (F0 m pc ls st0) := by
  obtain ⟨rm, h1, h2, h3, h4, h5⟩ := hM
  have hP := jL_cP hP
  have hD := jL_cD hD
  have hP0 := jL_2P hP
  have hD0 := jL_2D hD
  exact jL_jv (jw_uV hx hb hml hown ht (h5 _) o hl h1 h2 ⟨by omega, by omega⟩ hP0 hK hD0 (by rw [hyc]; exact va_recv (q0 := 0) (ci := 5) hK hP0 rfl rfl) hn hls hst hW hdg ⟨hf.1, hf.2⟩) hP hD hS hA (fun u H1 locs1 hp hP hD hS => kk u H1 locs1 hp (jL_oP hP) (jL_oD hD) hS)

theorem jL_thrown {cd : Int32} {P : jq_P} {tx : Nat → Int32} {si : Int32} : jL_MM l D xm g cI cZ y_M_thrown w_M_thrown [] (P, tx, si, cd) (fun r t => r = cd ∧ t = (P, tx, si, cd)) :=
  ⟨({ frames := 0, cells := 0, slots := 0, locals := 0 } : Room), rfl, rfl, Nat.zero_le _, Nat.zero_le _, fun sz => jL_mono (m_M_thrown l D xm g cI cZ (jp_O P) (jp_num P) (jp_au P) (jp_rv P) (jp_of P) (jp_pn P) (jp_bk P) (jp_lg P) (jp_wh P) (jp_ms P) (jp_wr P) (jp_dn P) (jp_tr P) (jp_wa P) tx si cd) (fun a s ⟨e, hsz, hP, hK, hD⟩ => ⟨e, hP.sub [0] rfl, hK.sub [] rfl⟩) (fun a st o t ⟨e, hsz, hP, hK, hD⟩ ⟨h5, h6⟩ => ⟨⟨cd, (P, tx, si, cd), h5, ⟨rfl, rfl⟩, by rw [h6]; exact hP, hD.self⟩, by rw [h6]; exact Nat.le_refl _, fun q _ _ => by rw [h6]⟩) (fun _ h => False.elim h)⟩
theorem jL_cWT0 {k : Int32} {a : Array Value} {ws : va_W} (hr : va_Run p l e R s m args below meth c H locs cells slots 1 6 (F0 m pc ls st0) rest (jT_WQ k a) (fun _ => False)) (hP : va_P D cl ws H) (hS : va_S A H0 H locs) (hA : ∀ q, H0.size ≤ q → A q)
    (kk : ∀ (H1 : Heap) (locs1 : List Loc), va_P D cl ws H1 → va_S A H0 H1 locs1 → W p l e R s m args below meth c H1 locs1 (cells + 1) (slots + 6) Q (F0 m (pc + 3) ls (.int k :: rest))) : W p l e R s m args below meth c H locs cells slots Q (F0 m pc ls st0) := by
  intro T hT X
  obtain ⟨v, st₀, t, T', L, h0, X', hL, e1, e2, ⟨hv, hk⟩, st⟩ := hr T hT X
  cases hv
  rw [h0] at hk
  have hk1 : ∀ (q : Nat) (c : Cell), H[q]? = some c → T'.heap[q]? = some c := fun q c h => by rw [e1]; exact hk q c h
  have hk2 : ∀ q : Nat, q < H.size → T'.heap[q]? = H[q]? := fun q hq => by
    have h1 : H[q]? = some H[q] := Array.getElem?_eq_getElem hq
    rw [h1]
    exact hk1 q _ h1
  have hz : H.size ≤ T'.heap.size := by
    by_cases z : H.size = 0
    · omega
    · have h1 : H[H.size - 1]? = some H[H.size - 1] := Array.getElem?_eq_getElem (by omega)
      have h2 := (Array.getElem?_eq_some_iff.mp (hk1 _ _ h1)).1
      omega
  obtain ⟨t2, a1, b1⟩ := kk T'.heap (locs ++ L) (hP.kept (fun k q hq => hk2 q.1 (hP k q hq).lt))
    ⟨Nat.le_trans hS.1 hz, fun q h1 h2 => by rw [hk2 q (Nat.lt_of_lt_of_le h1 hS.1)]; exact hS.2.1 q h1 h2, fun q hq => by
      rcases List.mem_append.mp hq with h | h
      · exact hS.2.2 q h
      · exact False.elim (hL q h)⟩ T' rfl X'
  exact ⟨t2, st t2 a1, b1⟩
theorem jL_cWT {hd : List (Nat × Nat × Nat × Nat)} {k : Nat} (hx : p.tables.exec = Jvm.exec) (hb : c.code = cc) (hml : c.maxLocals = nL) (hown : s.vm.findClass own = some m.cls) (ht : ∀ w ∈ jw_tbl, w.before args s = true) (hst9 : jT_st s) (hnc : jT_nc s) (hM : jL_WT l D x f ad cI cZ cG cC y (Cond.codeWith y bytes maxL ret hd :: jw_tbl) As σ k) (o : jT_OS y bytes maxL ret hd n) (hl : Cond.methodLink own index y ∈ jw_tbl) (hR : 9 ≤ R.frames ∧ 8 + (maxL + 11) + 160 ≤ R.locals) (hP : va_P D jw_cl ((oc :: jL_XW x f ad cI cZ cG cC σ) ++ wm) H) (hS : va_S (fun q => s.heap.size ≤ q) s.heap H locs) (hK : va_K D jw_cl (jL_ty cI cZ cG cC) s) (hn : As.length = n) (hls : ls.size = nL) (hst : st0 = As.reverse ++ rest) (hW : (rest.map fun v => v.category).sum ≤ 8) (hdg : decode cc pc = .ok (.invokestatic index, 3)) (hf : cells + 1 ≤ R.cells ∧ slots + 6 ≤ R.slots)
    (kk : ∀ (H1 : Heap) (locs1 : List Loc), va_P D jw_cl ((oc :: jL_XW x f ad cI cZ cG cC σ) ++ wm) H1 → va_S (fun q => s.heap.size ≤ q) s.heap H1 locs1 → W p l e R s m args below meth c H1 locs1 (cells + 1) (slots + 6) Q (F0 m (pc + 3) ls (.int (nI k) :: rest))) : W p l e R s m args below meth c H locs cells slots Q (F0 m pc ls st0) := by
  obtain ⟨lo, h1, h2⟩ := hM
  have hPx := jL_2P (jL_cP hP)
  have hh : ∀ (q : Nat) (c : Cell), s.heap[q]? = some c → H[q]? = some c := fun q c h => by
    have hq := (Array.getElem?_eq_some_iff.mp h).1
    rw [hS.2.1 q hq (by omega)]
    exact h
  exact jL_cWT0 (jT_runS hx hb hml hown ht h2 o hl rfl rfl ⟨by show 7 + 1 ≤ R.frames; omega, by show 8 + (maxL + 11) + lo ≤ R.locals; omega⟩ jT_WP_bl (jT_WP_of (jw_subP hPx [0] rfl) hPx hK hst9 hnc hh) hn hls hst hW hdg hf) hP hS (fun _ h => h) kk
theorem jL_cWS {hd : List (Nat × Nat × Nat × Nat)} {fo : Nat → Int64} {post : Int32 → jL_T → Prop} (hx : p.tables.exec = Jvm.exec) (hb : c.code = cc) (hml : c.maxLocals = nL) (hown : s.vm.findClass own = some m.cls) (ht : ∀ w ∈ jw_tbl, w.before args s = true) (hM : jL_WS l D x f ad cI cZ cG cC oo cJ y (Cond.codeWith y bytes maxL ret hd :: jw_tbl) As σ post) (o : jT_OS y bytes maxL ret hd n) (hl : Cond.methodLink own index y ∈ jw_tbl) (hR : 9 ≤ R.frames ∧ 8 + (maxL + 11) + 160 ≤ R.locals) (hP : va_P D jw_cl (((oo, .inl (cJ, 1, .inr (.inl fo))) :: jL_XW x f ad cI cZ cG cC σ) ++ wm) H) (hD : va_D A (((oo, .inl (cJ, 1, .inr (.inl fo))) :: jL_XW x f ad cI cZ cG cC σ) ++ wm)) (hS : va_S A H0 H locs) (hA : ∀ q, H0.size ≤ q → A q) (hK : va_K D jw_cl ((cJ, .long) :: jL_ty cI cZ cG cC) s) (hn : As.length = n) (hls : ls.size = nL) (hst : st0 = As.reverse ++ rest) (hW : (rest.map fun v => v.category).sum ≤ 8) (hdg : decode cc pc = .ok (.invokestatic index, 3)) (hf : cells ≤ R.cells ∧ slots ≤ R.slots)
    (kk : ∀ (r : Int32) (σ' : jL_T) (H1 : Heap) (locs1 : List Loc), post r σ' → va_P D jw_cl (((oo, .inl (cJ, 1, .inr (.inl (vp_updL fo 0 r.toInt64)))) :: jL_XW x f ad cI cZ cG cC σ') ++ wm) H1 → va_D A (((oo, .inl (cJ, 1, .inr (.inl (vp_updL fo 0 r.toInt64)))) :: jL_XW x f ad cI cZ cG cC σ') ++ wm) → va_S A H0 H1 locs1 → W p l e R s m args below meth c H1 locs1 cells slots Q (F0 m (pc + 3) ls (.int (nI 0) :: rest))) : W p l e R s m args below meth c H locs cells slots Q (F0 m pc ls st0) := by
  obtain ⟨rm, h1, h2, h3, h4, h5⟩ := hM
  have hP := jL_rP hP
  have hD := jL_rD hD
  have hP0 := jL_2P hP
  have hD0 := jL_2D hD
  refine jL_ji (jT_runS hx hb hml hown ht (h5 fo _) o hl h1 h2 ⟨by omega, by omega⟩ jw_C_bl (jw_C_of hP0 hK hD0) hn hls hst hW hdg ⟨hf.1, hf.2⟩) hP hD hS hA (fun v u H1 locs1 hp hP hD hS => ?_)
  obtain ⟨rfl, hp⟩ := hp
  exact kk u.1 u.2 H1 locs1 hp (jL_rP hP) (jL_rD hD) hS
end JLW
