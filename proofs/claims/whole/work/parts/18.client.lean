/-- the rows of a client: pending edits, text, log -/
abbrev jt_X : Type := (Nat → Int32) × (Nat → Int32) × (Nat → Int32) × (Nat → Int32) × (Nat → Int32)
def jt_rc (X : jt_X) (C : jt_C) : Prop := (∀ i, i < jc_pn C → X.1 i = nI (jt_po (jc_pe C i))) ∧ jt_rt X.2.1 (jc_tx C) ∧ jt_rl X.2.2.1 X.2.2.2.1 X.2.2.2.2 C
/-- its cells -/
abbrev jx_c (q e h a g b0 b1 b2 : Nat) (cI cZ : ClassId) (c : Nat) (C : jt_C) (X : jt_X) : va_W := [(q, .inr (0, [.int (nI c), .ref h, .ref g, .ref e, .int (nI (jc_pn C)), .int (nI (jc_bk C)), .int (nI (jc_rv C)), .int (nI (jc_on C))])), (e, .inl (cI, 8, .inl X.1)), (h, .inr (4, [.ref a, .int (nI ((jc_tx C).2))])), (a, .inl (cI, 68, .inl X.2.1)), (g, .inr (2, [.ref b0, .ref b1, .ref b2, .int (nI (jc_ln C))])), (b0, .inl (cI, 68, .inl X.2.2.1)), (b1, .inl (cI, 68, .inl X.2.2.2.1)), (b2, .inl (cZ, 68, .inl X.2.2.2.2))]
theorem jt_tx_up {l : Nat → jt_O} {n : Nat} {o : jt_O} : jt_tx (va_up l n o) (n + 1) = jt_pf (jt_tx l n) o := by
  rw [jt_tx, va_up_self, jt_tx_eq (l := va_up l n o) (l' := l) (fun i hi => va_up_ne _ _ (by omega))]
theorem jw_nb {b : Nat} (h : b ≤ 1) : narrow .boolean (.int (nI b)) = .int (nI b) := by
  have : b = 0 ∨ b = 1 := by omega
  rcases this with e | e
  · rw [e]; decide
  · rw [e]; decide
theorem jw_fb {b : Nat} (h : b ≤ 1) : fits .boolean (.int (nI b)) = true := by
  have : b = 0 ∨ b = 1 := by omega
  rcases this with e | e
  · rw [e]; decide
  · rw [e]; decide
theorem jt_rc_mk {X : jt_X} {C : jt_C} {o : jt_O} {fl : Nat} {f u1 u2 u3 : Nat → Int32} (h : jt_rc X C) (hf : jt_rt f (jt_pf (jc_tx C) o)) (hl : jt_rl u1 u2 u3 (jt_ad C o (jt_ch (jc_tx C) o) fl)) : jt_rc (upd X.1 (jc_pn C) (nI (jt_po o)), f, u1, u2, u3) (jt_mk C o fl) := by
  refine ⟨fun i hi => ?_, ?_, fun i hi => hl i hi⟩
  · have hi : i < jc_pn C + 1 := hi
    show upd X.1 (jc_pn C) (nI (jt_po o)) i = nI (jt_po (va_up (jc_pe C) (jc_pn C) o i))
    by_cases e : i = jc_pn C
    · subst e
      rw [pk_us, va_up_self]
    · rw [pk_un e, va_up_ne _ _ e]
      exact h.1 i (by omega)
  · show jt_rt f (jt_tx (va_up (jc_lo C) (jc_ln C) o) (jc_ln C + 1))
    rw [jt_tx_up]
    exact hf
theorem jt_rc_ow {X : jt_X} {C : jt_C} (h : jt_rc X C) (hp : jc_pn C ≠ 0) : jt_rc (va_cpy X.1 X.1 1 0 (jc_pn C - 1), X.2.1, X.2.2.1, X.2.2.2.1, X.2.2.2.2) (jt_ow C) := by
  refine ⟨fun i hi => ?_, h.2.1, fun i hi => h.2.2 i hi⟩
  have hi : i < jc_pn C - 1 := hi
  show va_cpy X.1 X.1 1 0 (jc_pn C - 1) i = nI (jt_po (jc_pe C (i + 1)))
  rw [pk_cpy_in (by omega) (by omega), show 1 + (i - 0) = i + 1 by omega]
  exact h.1 (i + 1) (by omega)
theorem jt_rc_ot {X : jt_X} {C : jt_C} {o : jt_O} {fp f u1 u2 u3 : Nat → Int32} (hp : ∀ j, j < jc_pn C → fp j = nI (jt_po (jt_pp (jc_pe C) o j))) (hf : jt_rt f (jt_pf (jc_tx C) (jt_oc (jc_pe C) o (jc_pn C)))) (hl : jt_rl u1 u2 u3 (jt_ad C (jt_oc (jc_pe C) o (jc_pn C)) (jt_ch (jc_tx C) (jt_oc (jc_pe C) o (jc_pn C))) 0)) : jt_rc (fp, f, u1, u2, u3) (jt_ot C o) := by
  refine ⟨fun i hi => ?_, ?_, fun i hi => hl i hi⟩
  · have hi : i < jc_pn C := hi
    show fp i = nI (jt_po (if i < jc_pn C then jt_pp (jc_pe C) o i else jc_pe C i))
    rw [if_pos hi]
    exact hp i hi
  · show jt_rt f (jt_tx (va_up (jc_lo C) (jc_ln C) _) (jc_ln C + 1))
    rw [jt_tx_up]
    exact hf
theorem jt_osm {H : Nat → jt_O} {N c : Nat} {C : jt_C} (h : jt_ci H N c C) (hH : jt_all H N) (hN : N ≤ 60) (hr : jc_rv C < N) : ∀ j, j ≤ jc_pn C → jt_sm (jt_oc (jc_pe C) (H (jc_rv C)) j) := fun j hj => by
  obtain ⟨⟨a1, a2, a3, a4⟩, ⟨b1, b2, b3, b4⟩, -⟩ := h
  obtain ⟨o1, o2⟩ := hH (jc_rv C) hr
  have h3 := jt_le_le H (jc_rv C)
  have h4 := jt_pl_le (jc_pe C) (jt_le H (jc_rv C)) j
  exact jt_sm_of (jt_oc_ok b2 o1 j hj).1 (jt_oc_wf o2 j) (by omega)
theorem jt_ook {H : Nat → jt_O} {N c : Nat} {C : jt_C} (h : jt_ci H N c C) (hH : jt_all H N) (hr : jc_rv C < N) : jt_ok (jc_tx C).2 (jt_oc (jc_pe C) (H (jc_rv C)) (jc_pn C)) := by
  obtain ⟨⟨a1, a2, a3, a4⟩, ⟨b1, b2, b3, b4⟩, -⟩ := h
  obtain ⟨o1, o2⟩ := hH (jc_rv C) hr
  have := (jt_oc_ok b2 o1 (jc_pn C) (Nat.le_refl _)).1
  rw [b3] at this
  exact this

set_option maxHeartbeats 4000000 in
set_option maxRecDepth 100000 in
theorem m_C_known (l : Launch) (D : va_G) (q e h g : Nat) (v0 v4 v5 v6 v7 : Int32) : Met l y_C_known w_C_known ({ frames := 0, cells := 0, slots := 0, locals := 0 }) (jw_P [.ref q] D jw_cl [(q, .inr (0, [.int v0, .ref h, .ref g, .ref e, .int v4, .int v5, .int v6, .int v7]))] []) (k2_QcV (.int v6)) 0 0 (fun _ => False) := by
  refine Met.ofW (cc := c_C_known) (maxL := 1) (ret := (some .int)) (by decide) rfl ?_
  intro pg0 en0 s m args below meth cd0 s₁ B hml hv
  obtain ⟨rfl, hP, hK⟩ := hv
  have hx := B.exec
  have hb := B.bytes
  have hr := B.returns
  have hts := atoms_spec (ws := w_C_known) B.pre
  have ht : ∀ w ∈ jw_tbl, w.before _ s = true := fun w h => hts w (List.mem_cons_of_mem _ h)
  have hown : s.vm.findClass jn_C = some m.cls := findClass_of_methodNamed B.named
  have hlocks := B.notSynchronized
  have hl := lv_entry ([.ref q]) (n := 1) (Nat.le_of_ble_eq_true rfl)
  rw [lg_entry_eq]
  generalize (lg_sl ([.ref q]) ++ List.replicate (1 - (lg_sl ([.ref q])).length) Slot.unset).toArray = ls at hl ⊢
  have hl : lv_has ls 1 [(0, .ref q)] := hl
  refine lv_aload_n hx hb d_C_known_0 rfl (lv_at hl 0 rfl) ?_
  refine va_get (D := D) (ci := 0) (v := .int v6) (C := jn_C) (T := jf_C) (N := 8) hx hb ht ji_C hown hK hP 0 rfl rfl 6 (by decide) (ht _ k_C_36) (fun _ h9 => h9) rfl d_C_known_1 ?_
  exact W.iret (v := v6) hx hb hr (fun t9 ht9 _ => ⟨rfl, ht9⟩) (fun q h => by cases h) d_C_known_4

set_option maxHeartbeats 4000000 in
set_option maxRecDepth 100000 in
theorem m_C_pendingCount (l : Launch) (D : va_G) (q e h g : Nat) (v0 v4 v5 v6 v7 : Int32) : Met l y_C_pendingCount w_C_pendingCount ({ frames := 0, cells := 0, slots := 0, locals := 0 }) (jw_P [.ref q] D jw_cl [(q, .inr (0, [.int v0, .ref h, .ref g, .ref e, .int v4, .int v5, .int v6, .int v7]))] []) (k2_QcV (.int v4)) 0 0 (fun _ => False) := by
  refine Met.ofW (cc := c_C_pendingCount) (maxL := 1) (ret := (some .int)) (by decide) rfl ?_
  intro pg0 en0 s m args below meth cd0 s₁ B hml hv
  obtain ⟨rfl, hP, hK⟩ := hv
  have hx := B.exec
  have hb := B.bytes
  have hr := B.returns
  have hts := atoms_spec (ws := w_C_pendingCount) B.pre
  have ht : ∀ w ∈ jw_tbl, w.before _ s = true := fun w h => hts w (List.mem_cons_of_mem _ h)
  have hown : s.vm.findClass jn_C = some m.cls := findClass_of_methodNamed B.named
  have hlocks := B.notSynchronized
  have hl := lv_entry ([.ref q]) (n := 1) (Nat.le_of_ble_eq_true rfl)
  rw [lg_entry_eq]
  generalize (lg_sl ([.ref q]) ++ List.replicate (1 - (lg_sl ([.ref q])).length) Slot.unset).toArray = ls at hl ⊢
  have hl : lv_has ls 1 [(0, .ref q)] := hl
  refine lv_aload_n hx hb d_C_pendingCount_0 rfl (lv_at hl 0 rfl) ?_
  refine va_get (D := D) (ci := 0) (v := .int v4) (C := jn_C) (T := jf_C) (N := 8) hx hb ht ji_C hown hK hP 0 rfl rfl 4 (by decide) (ht _ k_C_29) (fun _ h9 => h9) rfl d_C_pendingCount_1 ?_
  exact W.iret (v := v4) hx hb hr (fun t9 ht9 _ => ⟨rfl, ht9⟩) (fun q h => by cases h) d_C_pendingCount_4

set_option maxHeartbeats 4000000 in
set_option maxRecDepth 100000 in
theorem m_C_firstNumber (l : Launch) (D : va_G) (q e h g : Nat) (v0 v4 v5 v6 v7 : Int32) : Met l y_C_firstNumber w_C_firstNumber ({ frames := 0, cells := 0, slots := 0, locals := 0 }) (jw_P [.ref q] D jw_cl [(q, .inr (0, [.int v0, .ref h, .ref g, .ref e, .int v4, .int v5, .int v6, .int v7]))] []) (k2_QcV (.int v5)) 0 0 (fun _ => False) := by
  refine Met.ofW (cc := c_C_firstNumber) (maxL := 1) (ret := (some .int)) (by decide) rfl ?_
  intro pg0 en0 s m args below meth cd0 s₁ B hml hv
  obtain ⟨rfl, hP, hK⟩ := hv
  have hx := B.exec
  have hb := B.bytes
  have hr := B.returns
  have hts := atoms_spec (ws := w_C_firstNumber) B.pre
  have ht : ∀ w ∈ jw_tbl, w.before _ s = true := fun w h => hts w (List.mem_cons_of_mem _ h)
  have hown : s.vm.findClass jn_C = some m.cls := findClass_of_methodNamed B.named
  have hlocks := B.notSynchronized
  have hl := lv_entry ([.ref q]) (n := 1) (Nat.le_of_ble_eq_true rfl)
  rw [lg_entry_eq]
  generalize (lg_sl ([.ref q]) ++ List.replicate (1 - (lg_sl ([.ref q])).length) Slot.unset).toArray = ls at hl ⊢
  have hl : lv_has ls 1 [(0, .ref q)] := hl
  refine lv_aload_n hx hb d_C_firstNumber_0 rfl (lv_at hl 0 rfl) ?_
  refine va_get (D := D) (ci := 0) (v := .int v5) (C := jn_C) (T := jf_C) (N := 8) hx hb ht ji_C hown hK hP 0 rfl rfl 5 (by decide) (ht _ k_C_33) (fun _ h9 => h9) rfl d_C_firstNumber_1 ?_
  exact W.iret (v := v5) hx hb hr (fun t9 ht9 _ => ⟨rfl, ht9⟩) (fun q h => by cases h) d_C_firstNumber_4

set_option maxHeartbeats 4000000 in
set_option maxRecDepth 100000 in
theorem m_C_isOn (l : Launch) (D : va_G) (q e h g : Nat) (v0 v4 v5 v6 : Int32) (n : Nat) (hn : n ≤ 1) : Met l y_C_isOn w_C_isOn ({ frames := 0, cells := 0, slots := 0, locals := 0 }) (jw_P [.ref q] D jw_cl [(q, .inr (0, [.int v0, .ref h, .ref g, .ref e, .int v4, .int v5, .int v6, .int (nI n)]))] []) (k2_QcV (.int (nI n))) 0 0 (fun _ => False) := by
  refine Met.ofW (cc := c_C_isOn) (maxL := 1) (ret := (some .boolean)) (by decide) rfl ?_
  intro pg0 en0 s m args below meth cd0 s₁ B hml hv
  obtain ⟨rfl, hP, hK⟩ := hv
  have hx := B.exec
  have hb := B.bytes
  have hr := B.returns
  have hts := atoms_spec (ws := w_C_isOn) B.pre
  have ht : ∀ w ∈ jw_tbl, w.before _ s = true := fun w h => hts w (List.mem_cons_of_mem _ h)
  have hown : s.vm.findClass jn_C = some m.cls := findClass_of_methodNamed B.named
  have hlocks := B.notSynchronized
  have hl := lv_entry ([.ref q]) (n := 1) (Nat.le_of_ble_eq_true rfl)
  rw [lg_entry_eq]
  generalize (lg_sl ([.ref q]) ++ List.replicate (1 - (lg_sl ([.ref q])).length) Slot.unset).toArray = ls at hl ⊢
  have hl : lv_has ls 1 [(0, .ref q)] := hl
  refine lv_aload_n hx hb d_C_isOn_0 rfl (lv_at hl 0 rfl) ?_
  refine va_get (D := D) (ci := 0) (v := .int (nI n)) (C := jn_C) (T := jf_C) (N := 8) hx hb ht ji_C hown hK hP 0 rfl rfl 7 (by decide) (ht _ k_C_39) (fun _ h9 => h9) rfl d_C_isOn_1 ?_
  exact W.zret (v := nI n) hx hb hr (jw_nb hn) (fun t9 ht9 _ => ⟨rfl, ht9⟩) (fun q h => by cases h) d_C_isOn_4

set_option maxHeartbeats 4000000 in
set_option maxRecDepth 100000 in
theorem m_C_hasMostPending (l : Launch) (D : va_G) (q e h g : Nat) (v0 v5 v6 v7 : Int32) (n : Nat) (hn : n ≤ 8) : Met l y_C_hasMostPending w_C_hasMostPending ({ frames := 0, cells := 0, slots := 0, locals := 0 }) (jw_P [.ref q] D jw_cl [(q, .inr (0, [.int v0, .ref h, .ref g, .ref e, .int (nI n), .int v5, .int v6, .int v7]))] []) (k2_QcV (.int (jw_b (decide (8 ≤ n))))) 0 0 (fun _ => False) := by
  refine Met.ofW (cc := c_C_hasMostPending) (maxL := 1) (ret := (some .boolean)) (by decide) rfl ?_
  intro pg0 en0 s m args below meth cd0 s₁ B hml hv
  obtain ⟨rfl, hP, hK⟩ := hv
  have hx := B.exec
  have hb := B.bytes
  have hr := B.returns
  have hts := atoms_spec (ws := w_C_hasMostPending) B.pre
  have ht : ∀ w ∈ jw_tbl, w.before _ s = true := fun w h => hts w (List.mem_cons_of_mem _ h)
  have hown : s.vm.findClass jn_C = some m.cls := findClass_of_methodNamed B.named
  have hlocks := B.notSynchronized
  have hl := lv_entry ([.ref q]) (n := 1) (Nat.le_of_ble_eq_true rfl)
  rw [lg_entry_eq]
  generalize (lg_sl ([.ref q]) ++ List.replicate (1 - (lg_sl ([.ref q])).length) Slot.unset).toArray = ls at hl ⊢
  have hl : lv_has ls 1 [(0, .ref q)] := hl
  refine lv_aload_n hx hb d_C_hasMostPending_0 rfl (lv_at hl 0 rfl) ?_
  refine va_get (D := D) (ci := 0) (v := .int (nI n)) (C := jn_C) (T := jf_C) (N := 8) hx hb ht ji_C hown hK hP 0 rfl rfl 4 (by decide) (ht _ k_C_29) (fun _ h9 => h9) rfl d_C_hasMostPending_1 ?_
  refine lv_bipush (v := nI 8) hx hb d_C_hasMostPending_4 (by decide) ?_
  refine lv_icmp_lt (tgt := 13) hx hb d_C_hasMostPending_6 (by decide) (fun h6 => ?_) (fun h6 => ?_)
  · skip
    have h6 := jw_lt (by omega) (by omega) h6
    refine lv_iconst (v := nI 0) hx hb d_C_hasMostPending_13 (by decide) ?_
    exact W.zret (v := nI 0) hx hb hr (by decide) (fun t9 ht9 _ => ⟨congrArg (fun z => Outcome.returned (some (Value.int z))) (by simp [jw_b]; omega), ht9⟩) (fun q h => by cases h) d_C_hasMostPending_14
  · skip
    have h6 := jw_nlt (by omega) (by omega) h6
    refine lv_iconst (v := nI 1) hx hb d_C_hasMostPending_9 (by decide) ?_
    refine lv_goto (tgt := 14) hx hb d_C_hasMostPending_10 (by decide) ?_
    exact W.zret (v := nI 1) hx hb hr (by decide) (fun t9 ht9 _ => ⟨congrArg (fun z => Outcome.returned (some (Value.int z))) (by simp [jw_b]; omega), ht9⟩) (fun q h => by cases h) d_C_hasMostPending_14

set_option maxHeartbeats 4000000 in
set_option maxRecDepth 100000 in
theorem m_C_isFull (l : Launch) (D : va_G) (q e h a g : Nat) (v0 v5 v6 v7 : Int32) (n k : Nat) (hn : n ≤ 8) (hk : k ≤ 68) : Met l y_C_isFull w_C_isFull ({ frames := 1, cells := 0, slots := 0, locals := 20 }) (jw_P [.ref q] D jw_cl [(q, .inr (0, [.int v0, .ref h, .ref g, .ref e, .int (nI n), .int v5, .int v6, .int v7])), (h, .inr (4, [.ref a, .int (nI k)]))] []) (k2_QcV (.int (jw_b (decide (8 ≤ n ∨ 60 ≤ k))))) 0 0 (fun _ => False) := by
  refine Met.ofW (cc := c_C_isFull) (maxL := 1) (ret := (some .boolean)) (by decide) rfl ?_
  intro pg0 en0 s m args below meth cd0 s₁ B hml hv
  obtain ⟨rfl, hP, hK⟩ := hv
  have hx := B.exec
  have hb := B.bytes
  have hr := B.returns
  have hts := atoms_spec (ws := w_C_isFull) B.pre
  have ht : ∀ w ∈ jw_tbl, w.before _ s = true := fun w h => hts w (List.mem_cons_of_mem _ h)
  have hown : s.vm.findClass jn_C = some m.cls := findClass_of_methodNamed B.named
  have hlocks := B.notSynchronized
  have hl := lv_entry ([.ref q]) (n := 1) (Nat.le_of_ble_eq_true rfl)
  rw [lg_entry_eq]
  generalize (lg_sl ([.ref q]) ++ List.replicate (1 - (lg_sl ([.ref q])).length) Slot.unset).toArray = ls at hl ⊢
  have hl : lv_has ls 1 [(0, .ref q)] := hl
  refine lv_aload_n hx hb d_C_isFull_0 rfl (lv_at hl 0 rfl) ?_
  refine jw_rV (As := []) (rest := []) hx hb hml hown ht (m_C_hasMostPending l D q e h g _ _ _ _ _ (by omega)) (o_C_hasMostPending) k_C_46 rfl rfl ⟨Nat.le_of_ble_eq_true rfl, Nat.le_of_ble_eq_true rfl⟩ (hP.sub [0] rfl) (hK.sub [] rfl) (va_recv (q0 := 0) (ci := 0) hK hP rfl rfl) rfl hl.1 rfl (Nat.le_of_ble_eq_true rfl) d_C_isFull_1 ⟨Nat.zero_le _, Nat.zero_le _⟩ ?_
  refine lv_if_ne (tgt := 19) hx hb d_C_isFull_4 (by decide) (fun h4 => ?_) (fun h4 => ?_)
  · skip
    have h4 := of_decide_eq_true (jw_b1 h4)
    refine lv_iconst (v := nI 1) hx hb d_C_isFull_19 (by decide) ?_
    refine lv_goto (tgt := 24) hx hb d_C_isFull_20 (by decide) ?_
    exact W.zret (v := nI 1) hx hb hr (by decide) (fun t9 ht9 _ => ⟨congrArg (fun z => Outcome.returned (some (Value.int z))) (by simp [jw_b]; omega), ht9⟩) (fun q h => by cases h) d_C_isFull_24
  · skip
    have h4 := of_decide_eq_false (jw_b0 h4)
    refine lv_aload_n hx hb d_C_isFull_7 rfl (lv_at hl 0 rfl) ?_
    refine va_get (D := D) (ci := 0) (v := .ref h) (C := jn_C) (T := jf_C) (N := 8) hx hb ht ji_C hown hK hP 0 rfl rfl 1 (by decide) (ht _ k_C_12) (fun _ h9 => h9) rfl d_C_isFull_8 ?_
    refine jw_rV (As := []) (rest := []) hx hb hml hown ht (m_T_size l D h _ _) (o_T_size) k_C_50 rfl rfl ⟨Nat.le_of_ble_eq_true rfl, Nat.le_of_ble_eq_true rfl⟩ (hP.sub [1] rfl) (hK.sub [] rfl) (va_recv (q0 := 1) (ci := 4) hK hP rfl rfl) rfl hl.1 rfl (Nat.le_of_ble_eq_true rfl) d_C_isFull_11 ⟨Nat.zero_le _, Nat.zero_le _⟩ ?_
    refine lv_bipush (v := nI 60) hx hb d_C_isFull_14 (by decide) ?_
    refine lv_icmp_lt (tgt := 23) hx hb d_C_isFull_16 (by decide) (fun h16 => ?_) (fun h16 => ?_)
    · skip
      have h16 := jw_lt (by omega) (by omega) h16
      refine lv_iconst (v := nI 0) hx hb d_C_isFull_23 (by decide) ?_
      exact W.zret (v := nI 0) hx hb hr (by decide) (fun t9 ht9 _ => ⟨congrArg (fun z => Outcome.returned (some (Value.int z))) (by simp [jw_b]; omega), ht9⟩) (fun q h => by cases h) d_C_isFull_24
    · skip
      have h16 := jw_nlt (by omega) (by omega) h16
      refine lv_iconst (v := nI 1) hx hb d_C_isFull_19 (by decide) ?_
      refine lv_goto (tgt := 24) hx hb d_C_isFull_20 (by decide) ?_
      exact W.zret (v := nI 1) hx hb hr (by decide) (fun t9 ht9 _ => ⟨congrArg (fun z => Outcome.returned (some (Value.int z))) (by simp [jw_b]; omega), ht9⟩) (fun q h => by cases h) d_C_isFull_24

set_option maxHeartbeats 4000000 in
set_option maxRecDepth 100000 in
theorem m_C_firstPending (l : Launch) (D : va_G) (q e h g : Nat) (v0 v4 v5 v6 v7 : Int32) (cI : ClassId) (f : Nat → Int32) : Met l y_C_firstPending w_C_firstPending ({ frames := 0, cells := 0, slots := 0, locals := 0 }) (jw_P [.ref q] D jw_cl [(q, .inr (0, [.int v0, .ref h, .ref g, .ref e, .int v4, .int v5, .int v6, .int v7])), (e, .inl (cI, 8, .inl f))] [(cI, .int)]) (k2_QcV (.int (f 0))) 0 0 (fun _ => False) := by
  refine Met.ofW (cc := c_C_firstPending) (maxL := 1) (ret := (some .int)) (by decide) rfl ?_
  intro pg0 en0 s m args below meth cd0 s₁ B hml hv
  obtain ⟨rfl, hP, hK⟩ := hv
  have hx := B.exec
  have hb := B.bytes
  have hr := B.returns
  have hts := atoms_spec (ws := w_C_firstPending) B.pre
  have ht : ∀ w ∈ jw_tbl, w.before _ s = true := fun w h => hts w (List.mem_cons_of_mem _ h)
  have hown : s.vm.findClass jn_C = some m.cls := findClass_of_methodNamed B.named
  have hlocks := B.notSynchronized
  have hl := lv_entry ([.ref q]) (n := 1) (Nat.le_of_ble_eq_true rfl)
  rw [lg_entry_eq]
  generalize (lg_sl ([.ref q]) ++ List.replicate (1 - (lg_sl ([.ref q])).length) Slot.unset).toArray = ls at hl ⊢
  have hl : lv_has ls 1 [(0, .ref q)] := hl
  refine lv_aload_n hx hb d_C_firstPending_0 rfl (lv_at hl 0 rfl) ?_
  refine va_get (D := D) (ci := 0) (v := .ref e) (C := jn_C) (T := jf_C) (N := 8) hx hb ht ji_C hown hK hP 0 rfl rfl 3 (by decide) (ht _ k_C_25) (fun _ h9 => h9) rfl d_C_firstPending_1 ?_
  refine lv_iconst (v := nI 0) hx hb d_C_firstPending_4 (by decide) ?_
  refine va_iald hx hb hK hP 1 0 rfl rfl (vp_in_nI (by omega) (by decide)) d_C_firstPending_5 ?_
  rw [show (nI 0).toNatClampNeg = 0 from nI_clamp (by omega)]
  exact W.iret (v := f 0) hx hb hr (fun t9 ht9 _ => ⟨rfl, ht9⟩) (fun q h => by cases h) d_C_firstPending_6

set_option maxHeartbeats 4000000 in
set_option maxRecDepth 100000 in
theorem m_C_turn (l : Launch) (D : va_G) (sz : Nat) (q e h g : Nat) (v0 v4 v5 v6 v7 : Int32) (n : Nat) (hn : n ≤ 1) : Met l y_C_turn w_C_turn ({ frames := 0, cells := 0, slots := 0, locals := 0 }) (jw_C [.ref q, .int (nI n)] D jw_cl [(q, .inr (0, [.int v0, .ref h, .ref g, .ref e, .int v4, .int v5, .int v6, .int v7]))] [] sz) (va_Qv (fun _ : Unit => True) (jw_B D jw_cl (va_A [(q, .inr (0, [.int v0, .ref h, .ref g, .ref e, .int v4, .int v5, .int v6, .int v7]))] sz) (fun _ => [(q, .inr (0, [.int v0, .ref h, .ref g, .ref e, .int v4, .int v5, .int v6, .int (nI n)]))])) (va_A [(q, .inr (0, [.int v0, .ref h, .ref g, .ref e, .int v4, .int v5, .int v6, .int v7]))] sz)) 0 0 (va_A [(q, .inr (0, [.int v0, .ref h, .ref g, .ref e, .int v4, .int v5, .int v6, .int v7]))] sz) := by
  refine Met.ofW (cc := c_C_turn) (maxL := 2) (ret := none) (by decide) rfl ?_
  intro pg0 en0 s m args below meth cd0 s₁ B hml hv
  obtain ⟨rfl, hsz, hP, hK, hD0⟩ := hv
  have hx := B.exec
  have hb := B.bytes
  have hr := B.returns
  have hts := atoms_spec (ws := w_C_turn) B.pre
  have ht : ∀ w ∈ jw_tbl, w.before _ s = true := fun w h => hts w (List.mem_cons_of_mem _ h)
  have hown : s.vm.findClass jn_C = some m.cls := findClass_of_methodNamed B.named
  have hlocks := B.notSynchronized
  subst hsz
  have hD := hD0.self (sz := s.heap.size)
  generalize hAe : va_A [(q, .inr (0, [.int v0, .ref h, .ref g, .ref e, .int v4, .int v5, .int v6, .int v7]))] s.heap.size = A at hD ⊢
  have hA : ∀ q : Nat, s.heap.size ≤ q → A q := fun q h => by rw [← hAe]; exact Or.inr h
  have hS : va_S A s.heap s.heap [] := va_S.rf
  have hP : va_P D jw_cl [(q, .inr (0, [.int v0, .ref h, .ref g, .ref e, .int v4, .int v5, .int v6, .int v7]))] s.heap := hP
  have hl := lv_entry ([.ref q, .int (nI n)]) (n := 2) (Nat.le_of_ble_eq_true rfl)
  rw [lg_entry_eq]
  generalize (lg_sl ([.ref q, .int (nI n)]) ++ List.replicate (2 - (lg_sl ([.ref q, .int (nI n)])).length) Slot.unset).toArray = ls at hl ⊢
  have hl : lv_has ls 2 [(0, .ref q), (1, .int (nI n))] := hl
  refine lv_aload_n hx hb d_C_turn_0 rfl (lv_at hl 0 rfl) ?_
  refine lv_iload_n hx hb d_C_turn_1 rfl (lv_at hl 1 rfl) ?_
  refine va_put (D := D) (ci := 0) (v := .int (nI n)) (ty := .boolean) (C := jn_C) (T := jf_C) (N := 8) hx hb ht ji_C jy_C jo_C jm_C hown hK hP hD hS 0 rfl rfl 7 (by decide) (ht _ k_C_39) (fun _ h9 => h9) rfl (by decide +kernel) (jw_nb hn) (jw_fb hn) (Nat.le_of_ble_eq_true rfl) d_C_turn_2 (fun H locs hP hD hS => ?_)
  have hP : va_P D jw_cl [(q, .inr (0, [.int v0, .ref h, .ref g, .ref e, .int v4, .int v5, .int v6, .int (nI n)]))] H := hP
  have hD : va_D A [(q, .inr (0, [.int v0, .ref h, .ref g, .ref e, .int v4, .int v5, .int v6, .int (nI n)]))] := hD
  exact W.vret hx hb hr (fun t9 ht9 hW9 => ⟨⟨(), rfl, trivial, by rw [ht9]; exact hP, hD⟩, hS.F ht9⟩) hS.2.2 d_C_turn_5

set_option maxHeartbeats 4000000 in
set_option maxRecDepth 100000 in
theorem m_C_make_0 (l : Launch) (D : va_G) (sz : Nat) (q e h a g b0 b1 b2 : Nat) (cI cZ : ClassId) (c : Nat) (C : jt_C) (X : jt_X) (H0 : Nat → jt_O) (N0 : Nat) (hC : jt_ci H0 N0 c C) (hN : N0 ≤ 60) (hX : jt_rc X C) (o : jt_O) (ho : jt_sm o) (hok : jt_ok (jc_tx C).2 o) (hp : jc_pn C < 8) : Met l y_C_make w_C_make ({ frames := 3, cells := 0, slots := 0, locals := 65 }) (jw_C [.ref q, .int (nI (jt_po o)), .int (nI 0)] D jw_cl [(q, .inr (0, [.int (nI c), .ref h, .ref g, .ref e, .int (nI (jc_pn C)), .int (nI (jc_bk C)), .int (nI (jc_rv C)), .int (nI (jc_on C))])), (e, .inl (cI, 8, .inl X.1)), (h, .inr (4, [.ref a, .int (nI ((jc_tx C).2))])), (a, .inl (cI, 68, .inl X.2.1)), (g, .inr (2, [.ref b0, .ref b1, .ref b2, .int (nI (jc_ln C))])), (b0, .inl (cI, 68, .inl X.2.2.1)), (b1, .inl (cI, 68, .inl X.2.2.2.1)), (b2, .inl (cZ, 68, .inl X.2.2.2.2))] [(cI, .int), (cZ, .boolean)] sz) (va_Qv (fun u : jt_X => jt_rc u (jt_mk C o 1)) (jw_B D jw_cl (va_A [(q, .inr (0, [.int (nI c), .ref h, .ref g, .ref e, .int (nI (jc_pn C)), .int (nI (jc_bk C)), .int (nI (jc_rv C)), .int (nI (jc_on C))])), (e, .inl (cI, 8, .inl X.1)), (h, .inr (4, [.ref a, .int (nI ((jc_tx C).2))])), (a, .inl (cI, 68, .inl X.2.1)), (g, .inr (2, [.ref b0, .ref b1, .ref b2, .int (nI (jc_ln C))])), (b0, .inl (cI, 68, .inl X.2.2.1)), (b1, .inl (cI, 68, .inl X.2.2.2.1)), (b2, .inl (cZ, 68, .inl X.2.2.2.2))] sz) (fun u : jt_X => jx_c q e h a g b0 b1 b2 cI cZ c (jt_mk C o 1) u)) (va_A [(q, .inr (0, [.int (nI c), .ref h, .ref g, .ref e, .int (nI (jc_pn C)), .int (nI (jc_bk C)), .int (nI (jc_rv C)), .int (nI (jc_on C))])), (e, .inl (cI, 8, .inl X.1)), (h, .inr (4, [.ref a, .int (nI ((jc_tx C).2))])), (a, .inl (cI, 68, .inl X.2.1)), (g, .inr (2, [.ref b0, .ref b1, .ref b2, .int (nI (jc_ln C))])), (b0, .inl (cI, 68, .inl X.2.2.1)), (b1, .inl (cI, 68, .inl X.2.2.2.1)), (b2, .inl (cZ, 68, .inl X.2.2.2.2))] sz)) 0 0 (va_A [(q, .inr (0, [.int (nI c), .ref h, .ref g, .ref e, .int (nI (jc_pn C)), .int (nI (jc_bk C)), .int (nI (jc_rv C)), .int (nI (jc_on C))])), (e, .inl (cI, 8, .inl X.1)), (h, .inr (4, [.ref a, .int (nI ((jc_tx C).2))])), (a, .inl (cI, 68, .inl X.2.1)), (g, .inr (2, [.ref b0, .ref b1, .ref b2, .int (nI (jc_ln C))])), (b0, .inl (cI, 68, .inl X.2.2.1)), (b1, .inl (cI, 68, .inl X.2.2.2.1)), (b2, .inl (cZ, 68, .inl X.2.2.2.2))] sz) := by
  refine Met.ofW (cc := c_C_make) (maxL := 3) (ret := none) (by decide) rfl ?_
  intro pg0 en0 s m args below meth cd0 s₁ B hml hv
  obtain ⟨rfl, hsz, hP, hK, hD0⟩ := hv
  have hx := B.exec
  have hb := B.bytes
  have hr := B.returns
  have hts := atoms_spec (ws := w_C_make) B.pre
  have ht : ∀ w ∈ jw_tbl, w.before _ s = true := fun w h => hts w (List.mem_cons_of_mem _ h)
  have hown : s.vm.findClass jn_C = some m.cls := findClass_of_methodNamed B.named
  have hlocks := B.notSynchronized
  subst hsz
  have hD := hD0.self (sz := s.heap.size)
  generalize hAe : va_A [(q, .inr (0, [.int (nI c), .ref h, .ref g, .ref e, .int (nI (jc_pn C)), .int (nI (jc_bk C)), .int (nI (jc_rv C)), .int (nI (jc_on C))])), (e, .inl (cI, 8, .inl X.1)), (h, .inr (4, [.ref a, .int (nI ((jc_tx C).2))])), (a, .inl (cI, 68, .inl X.2.1)), (g, .inr (2, [.ref b0, .ref b1, .ref b2, .int (nI (jc_ln C))])), (b0, .inl (cI, 68, .inl X.2.2.1)), (b1, .inl (cI, 68, .inl X.2.2.2.1)), (b2, .inl (cZ, 68, .inl X.2.2.2.2))] s.heap.size = A at hD ⊢
  have hA : ∀ q : Nat, s.heap.size ≤ q → A q := fun q h => by rw [← hAe]; exact Or.inr h
  have hS : va_S A s.heap s.heap [] := va_S.rf
  have hP : va_P D jw_cl [(q, .inr (0, [.int (nI c), .ref h, .ref g, .ref e, .int (nI (jc_pn C)), .int (nI (jc_bk C)), .int (nI (jc_rv C)), .int (nI (jc_on C))])), (e, .inl (cI, 8, .inl X.1)), (h, .inr (4, [.ref a, .int (nI ((jc_tx C).2))])), (a, .inl (cI, 68, .inl X.2.1)), (g, .inr (2, [.ref b0, .ref b1, .ref b2, .int (nI (jc_ln C))])), (b0, .inl (cI, 68, .inl X.2.2.1)), (b1, .inl (cI, 68, .inl X.2.2.2.1)), (b2, .inl (cZ, 68, .inl X.2.2.2.2))] s.heap := hP
  have hl := lv_entry ([.ref q, .int (nI (jt_po o)), .int (nI 0)]) (n := 3) (Nat.le_of_ble_eq_true rfl)
  rw [lg_entry_eq]
  generalize (lg_sl ([.ref q, .int (nI (jt_po o)), .int (nI 0)]) ++ List.replicate (3 - (lg_sl ([.ref q, .int (nI (jt_po o)), .int (nI 0)])).length) Slot.unset).toArray = ls at hl ⊢
  have hl : lv_has ls 3 [(0, .ref q), (1, .int (nI (jt_po o))), (2, .int (nI 0))] := hl
  have hpn8 := hC.1.2.1
  have hln0 : jc_ln C = jc_rv C + jc_pn C := hC.1.2.2.1
  have hrv0 : jc_rv C ≤ N0 := hC.1.1
  have hln : jc_ln C < 68 := by omega
  have htx : (jc_tx C).2 ≤ 68 := by have : (jc_tx C).2 ≤ jc_ln C := jt_le_le _ _; omega
  have htx2 : (jc_tx C).2 ≤ jc_ln C := jt_le_le _ _
  refine lv_aload_n hx hb d_C_make_0 rfl (lv_at hl 0 rfl) ?_
  refine jw_rV (As := []) (rest := []) hx hb hml hown ht (m_C_hasMostPending l D q e h g _ _ _ _ _ (by omega)) (o_C_hasMostPending) k_C_46 rfl rfl ⟨Nat.le_of_ble_eq_true rfl, Nat.le_of_ble_eq_true rfl⟩ (hP.sub [0] rfl) (hK.sub [] rfl) (va_recv (q0 := 0) (ci := 0) hK hP rfl rfl) rfl hl.1 rfl (Nat.le_of_ble_eq_true rfl) d_C_make_1 ⟨Nat.zero_le _, Nat.zero_le _⟩ ?_
  refine lv_if_eq (tgt := 8) hx hb d_C_make_4 (by decide) (fun h4 => ?_) (fun h4 => absurd (of_decide_eq_true (jw_b1 h4)) (by omega))
  refine lv_aload_n hx hb d_C_make_8 rfl (lv_at hl 0 rfl) ?_
  refine va_get (D := D) (ci := 0) (v := .ref g) (C := jn_C) (T := jf_C) (N := 8) hx hb ht ji_C hown hK hP 0 rfl rfl 2 (by decide) (ht _ k_C_21) (fun _ h9 => h9) rfl d_C_make_9 ?_
  refine lv_iload_n hx hb d_C_make_12 rfl (lv_at hl 1 rfl) ?_
  refine lv_aload_n hx hb d_C_make_13 rfl (lv_at hl 0 rfl) ?_
  refine va_get (D := D) (ci := 0) (v := .ref h) (C := jn_C) (T := jf_C) (N := 8) hx hb ht ji_C hown hK hP 0 rfl rfl 1 (by decide) (ht _ k_C_12) (fun _ h9 => h9) rfl d_C_make_14 ?_
  refine lv_iload_n hx hb d_C_make_17 rfl (lv_at hl 1 rfl) ?_
  refine jw_ji (ws := [(q, .inr (0, [.int (nI c), .ref h, .ref g, .ref e, .int (nI (jc_pn C)), .int (nI (jc_bk C)), .int (nI (jc_rv C)), .int (nI (jc_on C))])), (e, .inl (cI, 8, .inl X.1)), (h, .inr (4, [.ref a, .int (nI ((jc_tx C).2))])), (a, .inl (cI, 68, .inl X.2.1)), (g, .inr (2, [.ref b0, .ref b1, .ref b2, .int (nI (jc_ln C))])), (b0, .inl (cI, 68, .inl X.2.2.1)), (b1, .inl (cI, 68, .inl X.2.2.2.1)), (b2, .inl (cZ, 68, .inl X.2.2.2.2))]) (wc := [(h, .inr (4, [.ref a, .int (nI ((jc_tx C).2))])), (a, .inl (cI, 68, .inl X.2.1))]) (wr := [(q, .inr (0, [.int (nI c), .ref h, .ref g, .ref e, .int (nI (jc_pn C)), .int (nI (jc_bk C)), .int (nI (jc_rv C)), .int (nI (jc_on C))])), (e, .inl (cI, 8, .inl X.1)), (g, .inr (2, [.ref b0, .ref b1, .ref b2, .int (nI (jc_ln C))])), (b0, .inl (cI, 68, .inl X.2.2.1)), (b1, .inl (cI, 68, .inl X.2.2.2.1)), (b2, .inl (cZ, 68, .inl X.2.2.2.2))]) (jw_uV (As := [.int (nI (jt_po o))]) (rest := [.int (nI (jt_po o)), .ref g]) hx hb hml hown ht (m_T_perform l D _ h a cI X.2.1 (jc_tx C) hX.2.1 htx o ho hok (fun _ => by omega)) (o_T_perform) k_C_54 rfl rfl ⟨Nat.le_of_ble_eq_true rfl, Nat.le_of_ble_eq_true rfl⟩ (hP.sub [2, 3] rfl) (hK.sub [0] rfl) (hD.sub [2, 3] (by decide) rfl) (va_recv (q0 := 2) (ci := 4) hK hP rfl rfl) rfl hl.1 rfl (Nat.le_of_ble_eq_true rfl) d_C_make_18 ⟨Nat.zero_le _, Nat.zero_le _⟩) hP hD hS hA [2, 3] [0, 1, 4, 5, 6, 7] rfl rfl (by decide) (by decide) (fun r2 u1 H locs hu1 hP hD hS => ?_)
  have hP : va_P D jw_cl [(q, .inr (0, [.int (nI c), .ref h, .ref g, .ref e, .int (nI (jc_pn C)), .int (nI (jc_bk C)), .int (nI (jc_rv C)), .int (nI (jc_on C))])), (e, .inl (cI, 8, .inl X.1)), (g, .inr (2, [.ref b0, .ref b1, .ref b2, .int (nI (jc_ln C))])), (b0, .inl (cI, 68, .inl X.2.2.1)), (b1, .inl (cI, 68, .inl X.2.2.2.1)), (b2, .inl (cZ, 68, .inl X.2.2.2.2)), (h, .inr (4, [.ref a, .int (nI ((jt_pf (jc_tx C) o).2))])), (a, .inl (cI, 68, .inl u1))] H := hP
  have hD : va_D A [(q, .inr (0, [.int (nI c), .ref h, .ref g, .ref e, .int (nI (jc_pn C)), .int (nI (jc_bk C)), .int (nI (jc_rv C)), .int (nI (jc_on C))])), (e, .inl (cI, 8, .inl X.1)), (g, .inr (2, [.ref b0, .ref b1, .ref b2, .int (nI (jc_ln C))])), (b0, .inl (cI, 68, .inl X.2.2.1)), (b1, .inl (cI, 68, .inl X.2.2.2.1)), (b2, .inl (cZ, 68, .inl X.2.2.2.2)), (h, .inr (4, [.ref a, .int (nI ((jt_pf (jc_tx C) o).2))])), (a, .inl (cI, 68, .inl u1))] := hD
  obtain ⟨rfl, hu1⟩ := hu1
  refine lv_iload_n hx hb d_C_make_21 rfl (lv_at hl 2 rfl) ?_
  refine lv_if_ne (tgt := 29) hx hb d_C_make_22 (by decide) (fun h22 => absurd (jw_ne0 (by omega) h22) (by omega)) (fun h22 => ?_)
  have h22 := jw_eq0 (by omega) h22
  refine lv_iconst (v := nI 1) hx hb d_C_make_25 (by decide) ?_
  refine lv_goto (tgt := 30) hx hb d_C_make_26 (by decide) ?_
  refine jw_jv (ws := [(q, .inr (0, [.int (nI c), .ref h, .ref g, .ref e, .int (nI (jc_pn C)), .int (nI (jc_bk C)), .int (nI (jc_rv C)), .int (nI (jc_on C))])), (e, .inl (cI, 8, .inl X.1)), (g, .inr (2, [.ref b0, .ref b1, .ref b2, .int (nI (jc_ln C))])), (b0, .inl (cI, 68, .inl X.2.2.1)), (b1, .inl (cI, 68, .inl X.2.2.2.1)), (b2, .inl (cZ, 68, .inl X.2.2.2.2)), (h, .inr (4, [.ref a, .int (nI ((jt_pf (jc_tx C) o).2))])), (a, .inl (cI, 68, .inl u1))]) (wc := [(g, .inr (2, [.ref b0, .ref b1, .ref b2, .int (nI (jc_ln C))])), (b0, .inl (cI, 68, .inl X.2.2.1)), (b1, .inl (cI, 68, .inl X.2.2.2.1)), (b2, .inl (cZ, 68, .inl X.2.2.2.2))]) (wr := [(q, .inr (0, [.int (nI c), .ref h, .ref g, .ref e, .int (nI (jc_pn C)), .int (nI (jc_bk C)), .int (nI (jc_rv C)), .int (nI (jc_on C))])), (e, .inl (cI, 8, .inl X.1)), (h, .inr (4, [.ref a, .int (nI ((jt_pf (jc_tx C) o).2))])), (a, .inl (cI, 68, .inl u1))]) (jw_uV (As := [.int (nI (jt_po o)), .int (nI (jt_ch (jc_tx C) o)), .int (nI 1)]) (rest := []) hx hb hml hown ht (m_G_add l D _ g b0 b1 b2 cI cZ X.2.2.1 X.2.2.2.1 X.2.2.2.2 C hX.2.2 o (jt_ch (jc_tx C) o) 1 1 (by decide) (by decide) hln) (o_G_add) k_C_58 rfl rfl ⟨Nat.le_of_ble_eq_true rfl, Nat.le_of_ble_eq_true rfl⟩ (hP.sub [2, 3, 4, 5] rfl) (hK.sub [0, 1] rfl) (hD.sub [2, 3, 4, 5] (by decide) rfl) (va_recv (q0 := 2) (ci := 2) hK hP rfl rfl) rfl hl.1 rfl (Nat.le_of_ble_eq_true rfl) d_C_make_30 ⟨Nat.zero_le _, Nat.zero_le _⟩) hP hD hS hA [2, 3, 4, 5] [0, 1, 6, 7] rfl rfl (by decide) (by decide) (fun u3 H locs hu3 hP hD hS => ?_)
  have hP : va_P D jw_cl [(q, .inr (0, [.int (nI c), .ref h, .ref g, .ref e, .int (nI (jc_pn C)), .int (nI (jc_bk C)), .int (nI (jc_rv C)), .int (nI (jc_on C))])), (e, .inl (cI, 8, .inl X.1)), (h, .inr (4, [.ref a, .int (nI ((jt_pf (jc_tx C) o).2))])), (a, .inl (cI, 68, .inl u1)), (g, .inr (2, [.ref b0, .ref b1, .ref b2, .int (nI (jc_ln C + 1))])), (b0, .inl (cI, 68, .inl u3.1)), (b1, .inl (cI, 68, .inl u3.2.1)), (b2, .inl (cZ, 68, .inl u3.2.2))] H := hP
  have hD : va_D A [(q, .inr (0, [.int (nI c), .ref h, .ref g, .ref e, .int (nI (jc_pn C)), .int (nI (jc_bk C)), .int (nI (jc_rv C)), .int (nI (jc_on C))])), (e, .inl (cI, 8, .inl X.1)), (h, .inr (4, [.ref a, .int (nI ((jt_pf (jc_tx C) o).2))])), (a, .inl (cI, 68, .inl u1)), (g, .inr (2, [.ref b0, .ref b1, .ref b2, .int (nI (jc_ln C + 1))])), (b0, .inl (cI, 68, .inl u3.1)), (b1, .inl (cI, 68, .inl u3.2.1)), (b2, .inl (cZ, 68, .inl u3.2.2))] := hD
  refine lv_aload_n hx hb d_C_make_33 rfl (lv_at hl 0 rfl) ?_
  refine va_get (D := D) (ci := 0) (v := .ref e) (C := jn_C) (T := jf_C) (N := 8) hx hb ht ji_C hown hK hP 0 rfl rfl 3 (by decide) (ht _ k_C_25) (fun _ h9 => h9) rfl d_C_make_34 ?_
  refine lv_aload_n hx hb d_C_make_37 rfl (lv_at hl 0 rfl) ?_
  refine va_get (D := D) (ci := 0) (v := .int (nI (jc_pn C))) (C := jn_C) (T := jf_C) (N := 8) hx hb ht ji_C hown hK hP 0 rfl rfl 4 (by decide) (ht _ k_C_29) (fun _ h9 => h9) rfl d_C_make_38 ?_
  refine lv_iload_n hx hb d_C_make_41 rfl (lv_at hl 1 rfl) ?_
  refine va_iast hx hb hK hP hD hS 1 0 rfl rfl (vp_in_nI (by omega) (by decide)) d_C_make_42 (fun H locs hP hD hS => ?_)
  rw [show (nI (jc_pn C)).toNatClampNeg = jc_pn C from nI_clamp (by omega)] at hP hD
  have hP : va_P D jw_cl [(q, .inr (0, [.int (nI c), .ref h, .ref g, .ref e, .int (nI (jc_pn C)), .int (nI (jc_bk C)), .int (nI (jc_rv C)), .int (nI (jc_on C))])), (e, .inl (cI, 8, .inl (upd X.1 (jc_pn C) (nI (jt_po o))))), (h, .inr (4, [.ref a, .int (nI ((jt_pf (jc_tx C) o).2))])), (a, .inl (cI, 68, .inl u1)), (g, .inr (2, [.ref b0, .ref b1, .ref b2, .int (nI (jc_ln C + 1))])), (b0, .inl (cI, 68, .inl u3.1)), (b1, .inl (cI, 68, .inl u3.2.1)), (b2, .inl (cZ, 68, .inl u3.2.2))] H := hP
  have hD : va_D A [(q, .inr (0, [.int (nI c), .ref h, .ref g, .ref e, .int (nI (jc_pn C)), .int (nI (jc_bk C)), .int (nI (jc_rv C)), .int (nI (jc_on C))])), (e, .inl (cI, 8, .inl (upd X.1 (jc_pn C) (nI (jt_po o))))), (h, .inr (4, [.ref a, .int (nI ((jt_pf (jc_tx C) o).2))])), (a, .inl (cI, 68, .inl u1)), (g, .inr (2, [.ref b0, .ref b1, .ref b2, .int (nI (jc_ln C + 1))])), (b0, .inl (cI, 68, .inl u3.1)), (b1, .inl (cI, 68, .inl u3.2.1)), (b2, .inl (cZ, 68, .inl u3.2.2))] := hD
  refine lv_aload_n hx hb d_C_make_43 rfl (lv_at hl 0 rfl) ?_
  refine lv_dup hx hb d_C_make_44 rfl ?_
  refine va_get (D := D) (ci := 0) (v := .int (nI (jc_pn C))) (C := jn_C) (T := jf_C) (N := 8) hx hb ht ji_C hown hK hP 0 rfl rfl 4 (by decide) (ht _ k_C_29) (fun _ h9 => h9) rfl d_C_make_45 ?_
  refine lv_iconst (v := nI 1) hx hb d_C_make_48 (by decide) ?_
  refine lv_iadd hx hb d_C_make_49 ?_
  refine lv_topi (fun v5 ev5 => ?_)
  obtain rfl : v5 = nI (jc_pn C + 1) := ev5.trans (nI_add _ _)
  refine va_put (D := D) (ci := 0) (v := .int (nI (jc_pn C + 1))) (ty := .int) (C := jn_C) (T := jf_C) (N := 8) hx hb ht ji_C jy_C jo_C jm_C hown hK hP hD hS 0 rfl rfl 4 (by decide) (ht _ k_C_29) (fun _ h9 => h9) rfl (by decide +kernel) rfl rfl (Nat.le_of_ble_eq_true rfl) d_C_make_50 (fun H locs hP hD hS => ?_)
  have hP : va_P D jw_cl [(q, .inr (0, [.int (nI c), .ref h, .ref g, .ref e, .int (nI (jc_pn C + 1)), .int (nI (jc_bk C)), .int (nI (jc_rv C)), .int (nI (jc_on C))])), (e, .inl (cI, 8, .inl (upd X.1 (jc_pn C) (nI (jt_po o))))), (h, .inr (4, [.ref a, .int (nI ((jt_pf (jc_tx C) o).2))])), (a, .inl (cI, 68, .inl u1)), (g, .inr (2, [.ref b0, .ref b1, .ref b2, .int (nI (jc_ln C + 1))])), (b0, .inl (cI, 68, .inl u3.1)), (b1, .inl (cI, 68, .inl u3.2.1)), (b2, .inl (cZ, 68, .inl u3.2.2))] H := hP
  have hD : va_D A [(q, .inr (0, [.int (nI c), .ref h, .ref g, .ref e, .int (nI (jc_pn C + 1)), .int (nI (jc_bk C)), .int (nI (jc_rv C)), .int (nI (jc_on C))])), (e, .inl (cI, 8, .inl (upd X.1 (jc_pn C) (nI (jt_po o))))), (h, .inr (4, [.ref a, .int (nI ((jt_pf (jc_tx C) o).2))])), (a, .inl (cI, 68, .inl u1)), (g, .inr (2, [.ref b0, .ref b1, .ref b2, .int (nI (jc_ln C + 1))])), (b0, .inl (cI, 68, .inl u3.1)), (b1, .inl (cI, 68, .inl u3.2.1)), (b2, .inl (cZ, 68, .inl u3.2.2))] := hD
  have hP := hP.sub (ws' := [(q, .inr (0, [.int (nI c), .ref h, .ref g, .ref e, .int (nI (jc_pn C + 1)), .int (nI (jc_bk C)), .int (nI (jc_rv C)), .int (nI (jc_on C))])), (e, .inl (cI, 8, .inl (upd X.1 (jc_pn C) (nI (jt_po o))))), (h, .inr (4, [.ref a, .int (nI ((jt_pf (jc_tx C) o).2))])), (a, .inl (cI, 68, .inl u1)), (g, .inr (2, [.ref b0, .ref b1, .ref b2, .int (nI (jc_ln C + 1))])), (b0, .inl (cI, 68, .inl u3.1)), (b1, .inl (cI, 68, .inl u3.2.1)), (b2, .inl (cZ, 68, .inl u3.2.2))]) [0, 1, 2, 3, 4, 5, 6, 7] rfl
  have hD := hD.sub (ws' := [(q, .inr (0, [.int (nI c), .ref h, .ref g, .ref e, .int (nI (jc_pn C + 1)), .int (nI (jc_bk C)), .int (nI (jc_rv C)), .int (nI (jc_on C))])), (e, .inl (cI, 8, .inl (upd X.1 (jc_pn C) (nI (jt_po o))))), (h, .inr (4, [.ref a, .int (nI ((jt_pf (jc_tx C) o).2))])), (a, .inl (cI, 68, .inl u1)), (g, .inr (2, [.ref b0, .ref b1, .ref b2, .int (nI (jc_ln C + 1))])), (b0, .inl (cI, 68, .inl u3.1)), (b1, .inl (cI, 68, .inl u3.2.1)), (b2, .inl (cZ, 68, .inl u3.2.2))]) [0, 1, 2, 3, 4, 5, 6, 7] (by decide) rfl
  rw [show jt_pf (jc_tx C) o = jc_tx (jt_mk C o 1) from jt_tx_up.symm] at hP hD
  exact W.vret hx hb hr (fun t9 ht9 hW9 => ⟨⟨(upd X.1 (jc_pn C) (nI (jt_po o)), u1, u3.1, u3.2.1, u3.2.2), rfl, jt_rc_mk hX hu1 hu3, by rw [ht9]; exact hP, hD⟩, hS.F ht9⟩) hS.2.2 d_C_make_53

set_option maxHeartbeats 4000000 in
set_option maxRecDepth 100000 in
theorem m_C_make_1 (l : Launch) (D : va_G) (sz : Nat) (q e h a g b0 b1 b2 : Nat) (cI cZ : ClassId) (c : Nat) (C : jt_C) (X : jt_X) (H0 : Nat → jt_O) (N0 : Nat) (hC : jt_ci H0 N0 c C) (hN : N0 ≤ 60) (hX : jt_rc X C) (o : jt_O) (ho : jt_sm o) (hok : jt_ok (jc_tx C).2 o) (hp : jc_pn C < 8) : Met l y_C_make w_C_make ({ frames := 3, cells := 0, slots := 0, locals := 65 }) (jw_C [.ref q, .int (nI (jt_po o)), .int (nI 1)] D jw_cl [(q, .inr (0, [.int (nI c), .ref h, .ref g, .ref e, .int (nI (jc_pn C)), .int (nI (jc_bk C)), .int (nI (jc_rv C)), .int (nI (jc_on C))])), (e, .inl (cI, 8, .inl X.1)), (h, .inr (4, [.ref a, .int (nI ((jc_tx C).2))])), (a, .inl (cI, 68, .inl X.2.1)), (g, .inr (2, [.ref b0, .ref b1, .ref b2, .int (nI (jc_ln C))])), (b0, .inl (cI, 68, .inl X.2.2.1)), (b1, .inl (cI, 68, .inl X.2.2.2.1)), (b2, .inl (cZ, 68, .inl X.2.2.2.2))] [(cI, .int), (cZ, .boolean)] sz) (va_Qv (fun u : jt_X => jt_rc u (jt_mk C o 2)) (jw_B D jw_cl (va_A [(q, .inr (0, [.int (nI c), .ref h, .ref g, .ref e, .int (nI (jc_pn C)), .int (nI (jc_bk C)), .int (nI (jc_rv C)), .int (nI (jc_on C))])), (e, .inl (cI, 8, .inl X.1)), (h, .inr (4, [.ref a, .int (nI ((jc_tx C).2))])), (a, .inl (cI, 68, .inl X.2.1)), (g, .inr (2, [.ref b0, .ref b1, .ref b2, .int (nI (jc_ln C))])), (b0, .inl (cI, 68, .inl X.2.2.1)), (b1, .inl (cI, 68, .inl X.2.2.2.1)), (b2, .inl (cZ, 68, .inl X.2.2.2.2))] sz) (fun u : jt_X => jx_c q e h a g b0 b1 b2 cI cZ c (jt_mk C o 2) u)) (va_A [(q, .inr (0, [.int (nI c), .ref h, .ref g, .ref e, .int (nI (jc_pn C)), .int (nI (jc_bk C)), .int (nI (jc_rv C)), .int (nI (jc_on C))])), (e, .inl (cI, 8, .inl X.1)), (h, .inr (4, [.ref a, .int (nI ((jc_tx C).2))])), (a, .inl (cI, 68, .inl X.2.1)), (g, .inr (2, [.ref b0, .ref b1, .ref b2, .int (nI (jc_ln C))])), (b0, .inl (cI, 68, .inl X.2.2.1)), (b1, .inl (cI, 68, .inl X.2.2.2.1)), (b2, .inl (cZ, 68, .inl X.2.2.2.2))] sz)) 0 0 (va_A [(q, .inr (0, [.int (nI c), .ref h, .ref g, .ref e, .int (nI (jc_pn C)), .int (nI (jc_bk C)), .int (nI (jc_rv C)), .int (nI (jc_on C))])), (e, .inl (cI, 8, .inl X.1)), (h, .inr (4, [.ref a, .int (nI ((jc_tx C).2))])), (a, .inl (cI, 68, .inl X.2.1)), (g, .inr (2, [.ref b0, .ref b1, .ref b2, .int (nI (jc_ln C))])), (b0, .inl (cI, 68, .inl X.2.2.1)), (b1, .inl (cI, 68, .inl X.2.2.2.1)), (b2, .inl (cZ, 68, .inl X.2.2.2.2))] sz) := by
  refine Met.ofW (cc := c_C_make) (maxL := 3) (ret := none) (by decide) rfl ?_
  intro pg0 en0 s m args below meth cd0 s₁ B hml hv
  obtain ⟨rfl, hsz, hP, hK, hD0⟩ := hv
  have hx := B.exec
  have hb := B.bytes
  have hr := B.returns
  have hts := atoms_spec (ws := w_C_make) B.pre
  have ht : ∀ w ∈ jw_tbl, w.before _ s = true := fun w h => hts w (List.mem_cons_of_mem _ h)
  have hown : s.vm.findClass jn_C = some m.cls := findClass_of_methodNamed B.named
  have hlocks := B.notSynchronized
  subst hsz
  have hD := hD0.self (sz := s.heap.size)
  generalize hAe : va_A [(q, .inr (0, [.int (nI c), .ref h, .ref g, .ref e, .int (nI (jc_pn C)), .int (nI (jc_bk C)), .int (nI (jc_rv C)), .int (nI (jc_on C))])), (e, .inl (cI, 8, .inl X.1)), (h, .inr (4, [.ref a, .int (nI ((jc_tx C).2))])), (a, .inl (cI, 68, .inl X.2.1)), (g, .inr (2, [.ref b0, .ref b1, .ref b2, .int (nI (jc_ln C))])), (b0, .inl (cI, 68, .inl X.2.2.1)), (b1, .inl (cI, 68, .inl X.2.2.2.1)), (b2, .inl (cZ, 68, .inl X.2.2.2.2))] s.heap.size = A at hD ⊢
  have hA : ∀ q : Nat, s.heap.size ≤ q → A q := fun q h => by rw [← hAe]; exact Or.inr h
  have hS : va_S A s.heap s.heap [] := va_S.rf
  have hP : va_P D jw_cl [(q, .inr (0, [.int (nI c), .ref h, .ref g, .ref e, .int (nI (jc_pn C)), .int (nI (jc_bk C)), .int (nI (jc_rv C)), .int (nI (jc_on C))])), (e, .inl (cI, 8, .inl X.1)), (h, .inr (4, [.ref a, .int (nI ((jc_tx C).2))])), (a, .inl (cI, 68, .inl X.2.1)), (g, .inr (2, [.ref b0, .ref b1, .ref b2, .int (nI (jc_ln C))])), (b0, .inl (cI, 68, .inl X.2.2.1)), (b1, .inl (cI, 68, .inl X.2.2.2.1)), (b2, .inl (cZ, 68, .inl X.2.2.2.2))] s.heap := hP
  have hl := lv_entry ([.ref q, .int (nI (jt_po o)), .int (nI 1)]) (n := 3) (Nat.le_of_ble_eq_true rfl)
  rw [lg_entry_eq]
  generalize (lg_sl ([.ref q, .int (nI (jt_po o)), .int (nI 1)]) ++ List.replicate (3 - (lg_sl ([.ref q, .int (nI (jt_po o)), .int (nI 1)])).length) Slot.unset).toArray = ls at hl ⊢
  have hl : lv_has ls 3 [(0, .ref q), (1, .int (nI (jt_po o))), (2, .int (nI 1))] := hl
  have hpn8 := hC.1.2.1
  have hln0 : jc_ln C = jc_rv C + jc_pn C := hC.1.2.2.1
  have hrv0 : jc_rv C ≤ N0 := hC.1.1
  have hln : jc_ln C < 68 := by omega
  have htx : (jc_tx C).2 ≤ 68 := by have : (jc_tx C).2 ≤ jc_ln C := jt_le_le _ _; omega
  have htx2 : (jc_tx C).2 ≤ jc_ln C := jt_le_le _ _
  refine lv_aload_n hx hb d_C_make_0 rfl (lv_at hl 0 rfl) ?_
  refine jw_rV (As := []) (rest := []) hx hb hml hown ht (m_C_hasMostPending l D q e h g _ _ _ _ _ (by omega)) (o_C_hasMostPending) k_C_46 rfl rfl ⟨Nat.le_of_ble_eq_true rfl, Nat.le_of_ble_eq_true rfl⟩ (hP.sub [0] rfl) (hK.sub [] rfl) (va_recv (q0 := 0) (ci := 0) hK hP rfl rfl) rfl hl.1 rfl (Nat.le_of_ble_eq_true rfl) d_C_make_1 ⟨Nat.zero_le _, Nat.zero_le _⟩ ?_
  refine lv_if_eq (tgt := 8) hx hb d_C_make_4 (by decide) (fun h4 => ?_) (fun h4 => absurd (of_decide_eq_true (jw_b1 h4)) (by omega))
  refine lv_aload_n hx hb d_C_make_8 rfl (lv_at hl 0 rfl) ?_
  refine va_get (D := D) (ci := 0) (v := .ref g) (C := jn_C) (T := jf_C) (N := 8) hx hb ht ji_C hown hK hP 0 rfl rfl 2 (by decide) (ht _ k_C_21) (fun _ h9 => h9) rfl d_C_make_9 ?_
  refine lv_iload_n hx hb d_C_make_12 rfl (lv_at hl 1 rfl) ?_
  refine lv_aload_n hx hb d_C_make_13 rfl (lv_at hl 0 rfl) ?_
  refine va_get (D := D) (ci := 0) (v := .ref h) (C := jn_C) (T := jf_C) (N := 8) hx hb ht ji_C hown hK hP 0 rfl rfl 1 (by decide) (ht _ k_C_12) (fun _ h9 => h9) rfl d_C_make_14 ?_
  refine lv_iload_n hx hb d_C_make_17 rfl (lv_at hl 1 rfl) ?_
  refine jw_ji (ws := [(q, .inr (0, [.int (nI c), .ref h, .ref g, .ref e, .int (nI (jc_pn C)), .int (nI (jc_bk C)), .int (nI (jc_rv C)), .int (nI (jc_on C))])), (e, .inl (cI, 8, .inl X.1)), (h, .inr (4, [.ref a, .int (nI ((jc_tx C).2))])), (a, .inl (cI, 68, .inl X.2.1)), (g, .inr (2, [.ref b0, .ref b1, .ref b2, .int (nI (jc_ln C))])), (b0, .inl (cI, 68, .inl X.2.2.1)), (b1, .inl (cI, 68, .inl X.2.2.2.1)), (b2, .inl (cZ, 68, .inl X.2.2.2.2))]) (wc := [(h, .inr (4, [.ref a, .int (nI ((jc_tx C).2))])), (a, .inl (cI, 68, .inl X.2.1))]) (wr := [(q, .inr (0, [.int (nI c), .ref h, .ref g, .ref e, .int (nI (jc_pn C)), .int (nI (jc_bk C)), .int (nI (jc_rv C)), .int (nI (jc_on C))])), (e, .inl (cI, 8, .inl X.1)), (g, .inr (2, [.ref b0, .ref b1, .ref b2, .int (nI (jc_ln C))])), (b0, .inl (cI, 68, .inl X.2.2.1)), (b1, .inl (cI, 68, .inl X.2.2.2.1)), (b2, .inl (cZ, 68, .inl X.2.2.2.2))]) (jw_uV (As := [.int (nI (jt_po o))]) (rest := [.int (nI (jt_po o)), .ref g]) hx hb hml hown ht (m_T_perform l D _ h a cI X.2.1 (jc_tx C) hX.2.1 htx o ho hok (fun _ => by omega)) (o_T_perform) k_C_54 rfl rfl ⟨Nat.le_of_ble_eq_true rfl, Nat.le_of_ble_eq_true rfl⟩ (hP.sub [2, 3] rfl) (hK.sub [0] rfl) (hD.sub [2, 3] (by decide) rfl) (va_recv (q0 := 2) (ci := 4) hK hP rfl rfl) rfl hl.1 rfl (Nat.le_of_ble_eq_true rfl) d_C_make_18 ⟨Nat.zero_le _, Nat.zero_le _⟩) hP hD hS hA [2, 3] [0, 1, 4, 5, 6, 7] rfl rfl (by decide) (by decide) (fun r2 u1 H locs hu1 hP hD hS => ?_)
  have hP : va_P D jw_cl [(q, .inr (0, [.int (nI c), .ref h, .ref g, .ref e, .int (nI (jc_pn C)), .int (nI (jc_bk C)), .int (nI (jc_rv C)), .int (nI (jc_on C))])), (e, .inl (cI, 8, .inl X.1)), (g, .inr (2, [.ref b0, .ref b1, .ref b2, .int (nI (jc_ln C))])), (b0, .inl (cI, 68, .inl X.2.2.1)), (b1, .inl (cI, 68, .inl X.2.2.2.1)), (b2, .inl (cZ, 68, .inl X.2.2.2.2)), (h, .inr (4, [.ref a, .int (nI ((jt_pf (jc_tx C) o).2))])), (a, .inl (cI, 68, .inl u1))] H := hP
  have hD : va_D A [(q, .inr (0, [.int (nI c), .ref h, .ref g, .ref e, .int (nI (jc_pn C)), .int (nI (jc_bk C)), .int (nI (jc_rv C)), .int (nI (jc_on C))])), (e, .inl (cI, 8, .inl X.1)), (g, .inr (2, [.ref b0, .ref b1, .ref b2, .int (nI (jc_ln C))])), (b0, .inl (cI, 68, .inl X.2.2.1)), (b1, .inl (cI, 68, .inl X.2.2.2.1)), (b2, .inl (cZ, 68, .inl X.2.2.2.2)), (h, .inr (4, [.ref a, .int (nI ((jt_pf (jc_tx C) o).2))])), (a, .inl (cI, 68, .inl u1))] := hD
  obtain ⟨rfl, hu1⟩ := hu1
  refine lv_iload_n hx hb d_C_make_21 rfl (lv_at hl 2 rfl) ?_
  refine lv_if_ne (tgt := 29) hx hb d_C_make_22 (by decide) (fun h22 => ?_) (fun h22 => absurd (jw_eq0 (by omega) h22) (by omega))
  have h22 := jw_ne0 (by omega) h22
  refine lv_iconst (v := nI 0) hx hb d_C_make_29 (by decide) ?_
  refine jw_jv (ws := [(q, .inr (0, [.int (nI c), .ref h, .ref g, .ref e, .int (nI (jc_pn C)), .int (nI (jc_bk C)), .int (nI (jc_rv C)), .int (nI (jc_on C))])), (e, .inl (cI, 8, .inl X.1)), (g, .inr (2, [.ref b0, .ref b1, .ref b2, .int (nI (jc_ln C))])), (b0, .inl (cI, 68, .inl X.2.2.1)), (b1, .inl (cI, 68, .inl X.2.2.2.1)), (b2, .inl (cZ, 68, .inl X.2.2.2.2)), (h, .inr (4, [.ref a, .int (nI ((jt_pf (jc_tx C) o).2))])), (a, .inl (cI, 68, .inl u1))]) (wc := [(g, .inr (2, [.ref b0, .ref b1, .ref b2, .int (nI (jc_ln C))])), (b0, .inl (cI, 68, .inl X.2.2.1)), (b1, .inl (cI, 68, .inl X.2.2.2.1)), (b2, .inl (cZ, 68, .inl X.2.2.2.2))]) (wr := [(q, .inr (0, [.int (nI c), .ref h, .ref g, .ref e, .int (nI (jc_pn C)), .int (nI (jc_bk C)), .int (nI (jc_rv C)), .int (nI (jc_on C))])), (e, .inl (cI, 8, .inl X.1)), (h, .inr (4, [.ref a, .int (nI ((jt_pf (jc_tx C) o).2))])), (a, .inl (cI, 68, .inl u1))]) (jw_uV (As := [.int (nI (jt_po o)), .int (nI (jt_ch (jc_tx C) o)), .int (nI 0)]) (rest := []) hx hb hml hown ht (m_G_add l D _ g b0 b1 b2 cI cZ X.2.2.1 X.2.2.2.1 X.2.2.2.2 C hX.2.2 o (jt_ch (jc_tx C) o) 2 0 (by decide) (by decide) hln) (o_G_add) k_C_58 rfl rfl ⟨Nat.le_of_ble_eq_true rfl, Nat.le_of_ble_eq_true rfl⟩ (hP.sub [2, 3, 4, 5] rfl) (hK.sub [0, 1] rfl) (hD.sub [2, 3, 4, 5] (by decide) rfl) (va_recv (q0 := 2) (ci := 2) hK hP rfl rfl) rfl hl.1 rfl (Nat.le_of_ble_eq_true rfl) d_C_make_30 ⟨Nat.zero_le _, Nat.zero_le _⟩) hP hD hS hA [2, 3, 4, 5] [0, 1, 6, 7] rfl rfl (by decide) (by decide) (fun u3 H locs hu3 hP hD hS => ?_)
  have hP : va_P D jw_cl [(q, .inr (0, [.int (nI c), .ref h, .ref g, .ref e, .int (nI (jc_pn C)), .int (nI (jc_bk C)), .int (nI (jc_rv C)), .int (nI (jc_on C))])), (e, .inl (cI, 8, .inl X.1)), (h, .inr (4, [.ref a, .int (nI ((jt_pf (jc_tx C) o).2))])), (a, .inl (cI, 68, .inl u1)), (g, .inr (2, [.ref b0, .ref b1, .ref b2, .int (nI (jc_ln C + 1))])), (b0, .inl (cI, 68, .inl u3.1)), (b1, .inl (cI, 68, .inl u3.2.1)), (b2, .inl (cZ, 68, .inl u3.2.2))] H := hP
  have hD : va_D A [(q, .inr (0, [.int (nI c), .ref h, .ref g, .ref e, .int (nI (jc_pn C)), .int (nI (jc_bk C)), .int (nI (jc_rv C)), .int (nI (jc_on C))])), (e, .inl (cI, 8, .inl X.1)), (h, .inr (4, [.ref a, .int (nI ((jt_pf (jc_tx C) o).2))])), (a, .inl (cI, 68, .inl u1)), (g, .inr (2, [.ref b0, .ref b1, .ref b2, .int (nI (jc_ln C + 1))])), (b0, .inl (cI, 68, .inl u3.1)), (b1, .inl (cI, 68, .inl u3.2.1)), (b2, .inl (cZ, 68, .inl u3.2.2))] := hD
  refine lv_aload_n hx hb d_C_make_33 rfl (lv_at hl 0 rfl) ?_
  refine va_get (D := D) (ci := 0) (v := .ref e) (C := jn_C) (T := jf_C) (N := 8) hx hb ht ji_C hown hK hP 0 rfl rfl 3 (by decide) (ht _ k_C_25) (fun _ h9 => h9) rfl d_C_make_34 ?_
  refine lv_aload_n hx hb d_C_make_37 rfl (lv_at hl 0 rfl) ?_
  refine va_get (D := D) (ci := 0) (v := .int (nI (jc_pn C))) (C := jn_C) (T := jf_C) (N := 8) hx hb ht ji_C hown hK hP 0 rfl rfl 4 (by decide) (ht _ k_C_29) (fun _ h9 => h9) rfl d_C_make_38 ?_
  refine lv_iload_n hx hb d_C_make_41 rfl (lv_at hl 1 rfl) ?_
  refine va_iast hx hb hK hP hD hS 1 0 rfl rfl (vp_in_nI (by omega) (by decide)) d_C_make_42 (fun H locs hP hD hS => ?_)
  rw [show (nI (jc_pn C)).toNatClampNeg = jc_pn C from nI_clamp (by omega)] at hP hD
  have hP : va_P D jw_cl [(q, .inr (0, [.int (nI c), .ref h, .ref g, .ref e, .int (nI (jc_pn C)), .int (nI (jc_bk C)), .int (nI (jc_rv C)), .int (nI (jc_on C))])), (e, .inl (cI, 8, .inl (upd X.1 (jc_pn C) (nI (jt_po o))))), (h, .inr (4, [.ref a, .int (nI ((jt_pf (jc_tx C) o).2))])), (a, .inl (cI, 68, .inl u1)), (g, .inr (2, [.ref b0, .ref b1, .ref b2, .int (nI (jc_ln C + 1))])), (b0, .inl (cI, 68, .inl u3.1)), (b1, .inl (cI, 68, .inl u3.2.1)), (b2, .inl (cZ, 68, .inl u3.2.2))] H := hP
  have hD : va_D A [(q, .inr (0, [.int (nI c), .ref h, .ref g, .ref e, .int (nI (jc_pn C)), .int (nI (jc_bk C)), .int (nI (jc_rv C)), .int (nI (jc_on C))])), (e, .inl (cI, 8, .inl (upd X.1 (jc_pn C) (nI (jt_po o))))), (h, .inr (4, [.ref a, .int (nI ((jt_pf (jc_tx C) o).2))])), (a, .inl (cI, 68, .inl u1)), (g, .inr (2, [.ref b0, .ref b1, .ref b2, .int (nI (jc_ln C + 1))])), (b0, .inl (cI, 68, .inl u3.1)), (b1, .inl (cI, 68, .inl u3.2.1)), (b2, .inl (cZ, 68, .inl u3.2.2))] := hD
  refine lv_aload_n hx hb d_C_make_43 rfl (lv_at hl 0 rfl) ?_
  refine lv_dup hx hb d_C_make_44 rfl ?_
  refine va_get (D := D) (ci := 0) (v := .int (nI (jc_pn C))) (C := jn_C) (T := jf_C) (N := 8) hx hb ht ji_C hown hK hP 0 rfl rfl 4 (by decide) (ht _ k_C_29) (fun _ h9 => h9) rfl d_C_make_45 ?_
  refine lv_iconst (v := nI 1) hx hb d_C_make_48 (by decide) ?_
  refine lv_iadd hx hb d_C_make_49 ?_
  refine lv_topi (fun v5 ev5 => ?_)
  obtain rfl : v5 = nI (jc_pn C + 1) := ev5.trans (nI_add _ _)
  refine va_put (D := D) (ci := 0) (v := .int (nI (jc_pn C + 1))) (ty := .int) (C := jn_C) (T := jf_C) (N := 8) hx hb ht ji_C jy_C jo_C jm_C hown hK hP hD hS 0 rfl rfl 4 (by decide) (ht _ k_C_29) (fun _ h9 => h9) rfl (by decide +kernel) rfl rfl (Nat.le_of_ble_eq_true rfl) d_C_make_50 (fun H locs hP hD hS => ?_)
  have hP : va_P D jw_cl [(q, .inr (0, [.int (nI c), .ref h, .ref g, .ref e, .int (nI (jc_pn C + 1)), .int (nI (jc_bk C)), .int (nI (jc_rv C)), .int (nI (jc_on C))])), (e, .inl (cI, 8, .inl (upd X.1 (jc_pn C) (nI (jt_po o))))), (h, .inr (4, [.ref a, .int (nI ((jt_pf (jc_tx C) o).2))])), (a, .inl (cI, 68, .inl u1)), (g, .inr (2, [.ref b0, .ref b1, .ref b2, .int (nI (jc_ln C + 1))])), (b0, .inl (cI, 68, .inl u3.1)), (b1, .inl (cI, 68, .inl u3.2.1)), (b2, .inl (cZ, 68, .inl u3.2.2))] H := hP
  have hD : va_D A [(q, .inr (0, [.int (nI c), .ref h, .ref g, .ref e, .int (nI (jc_pn C + 1)), .int (nI (jc_bk C)), .int (nI (jc_rv C)), .int (nI (jc_on C))])), (e, .inl (cI, 8, .inl (upd X.1 (jc_pn C) (nI (jt_po o))))), (h, .inr (4, [.ref a, .int (nI ((jt_pf (jc_tx C) o).2))])), (a, .inl (cI, 68, .inl u1)), (g, .inr (2, [.ref b0, .ref b1, .ref b2, .int (nI (jc_ln C + 1))])), (b0, .inl (cI, 68, .inl u3.1)), (b1, .inl (cI, 68, .inl u3.2.1)), (b2, .inl (cZ, 68, .inl u3.2.2))] := hD
  have hP := hP.sub (ws' := [(q, .inr (0, [.int (nI c), .ref h, .ref g, .ref e, .int (nI (jc_pn C + 1)), .int (nI (jc_bk C)), .int (nI (jc_rv C)), .int (nI (jc_on C))])), (e, .inl (cI, 8, .inl (upd X.1 (jc_pn C) (nI (jt_po o))))), (h, .inr (4, [.ref a, .int (nI ((jt_pf (jc_tx C) o).2))])), (a, .inl (cI, 68, .inl u1)), (g, .inr (2, [.ref b0, .ref b1, .ref b2, .int (nI (jc_ln C + 1))])), (b0, .inl (cI, 68, .inl u3.1)), (b1, .inl (cI, 68, .inl u3.2.1)), (b2, .inl (cZ, 68, .inl u3.2.2))]) [0, 1, 2, 3, 4, 5, 6, 7] rfl
  have hD := hD.sub (ws' := [(q, .inr (0, [.int (nI c), .ref h, .ref g, .ref e, .int (nI (jc_pn C + 1)), .int (nI (jc_bk C)), .int (nI (jc_rv C)), .int (nI (jc_on C))])), (e, .inl (cI, 8, .inl (upd X.1 (jc_pn C) (nI (jt_po o))))), (h, .inr (4, [.ref a, .int (nI ((jt_pf (jc_tx C) o).2))])), (a, .inl (cI, 68, .inl u1)), (g, .inr (2, [.ref b0, .ref b1, .ref b2, .int (nI (jc_ln C + 1))])), (b0, .inl (cI, 68, .inl u3.1)), (b1, .inl (cI, 68, .inl u3.2.1)), (b2, .inl (cZ, 68, .inl u3.2.2))]) [0, 1, 2, 3, 4, 5, 6, 7] (by decide) rfl
  rw [show jt_pf (jc_tx C) o = jc_tx (jt_mk C o 2) from jt_tx_up.symm] at hP hD
  exact W.vret hx hb hr (fun t9 ht9 hW9 => ⟨⟨(upd X.1 (jc_pn C) (nI (jt_po o)), u1, u3.1, u3.2.1, u3.2.2), rfl, jt_rc_mk hX hu1 hu3, by rw [ht9]; exact hP, hD⟩, hS.F ht9⟩) hS.2.2 d_C_make_53

set_option maxHeartbeats 4000000 in
set_option maxRecDepth 100000 in
theorem m_C_getOwnBack (l : Launch) (D : va_G) (sz : Nat) (q e h a g b0 b1 b2 : Nat) (cI cZ : ClassId) (c : Nat) (C : jt_C) (X : jt_X) (H0 : Nat → jt_O) (N0 : Nat) (hC : jt_ci H0 N0 c C) (hN : N0 ≤ 60) (hX : jt_rc X C) (hp : jc_pn C ≠ 0) : Met l y_C_getOwnBack w_C_getOwnBack ({ frames := 1, cells := 0, slots := 0, locals := 18 }) (jw_C [.ref q] D jw_cl [(q, .inr (0, [.int (nI c), .ref h, .ref g, .ref e, .int (nI (jc_pn C)), .int (nI (jc_bk C)), .int (nI (jc_rv C)), .int (nI (jc_on C))])), (e, .inl (cI, 8, .inl X.1)), (h, .inr (4, [.ref a, .int (nI ((jc_tx C).2))])), (a, .inl (cI, 68, .inl X.2.1)), (g, .inr (2, [.ref b0, .ref b1, .ref b2, .int (nI (jc_ln C))])), (b0, .inl (cI, 68, .inl X.2.2.1)), (b1, .inl (cI, 68, .inl X.2.2.2.1)), (b2, .inl (cZ, 68, .inl X.2.2.2.2))] [(cI, .int), (cZ, .boolean)] sz) (va_Qv (fun u : jt_X => jt_rc u (jt_ow C)) (jw_B D jw_cl (va_A [(q, .inr (0, [.int (nI c), .ref h, .ref g, .ref e, .int (nI (jc_pn C)), .int (nI (jc_bk C)), .int (nI (jc_rv C)), .int (nI (jc_on C))])), (e, .inl (cI, 8, .inl X.1)), (h, .inr (4, [.ref a, .int (nI ((jc_tx C).2))])), (a, .inl (cI, 68, .inl X.2.1)), (g, .inr (2, [.ref b0, .ref b1, .ref b2, .int (nI (jc_ln C))])), (b0, .inl (cI, 68, .inl X.2.2.1)), (b1, .inl (cI, 68, .inl X.2.2.2.1)), (b2, .inl (cZ, 68, .inl X.2.2.2.2))] sz) (fun u : jt_X => jx_c q e h a g b0 b1 b2 cI cZ c (jt_ow C) u)) (va_A [(q, .inr (0, [.int (nI c), .ref h, .ref g, .ref e, .int (nI (jc_pn C)), .int (nI (jc_bk C)), .int (nI (jc_rv C)), .int (nI (jc_on C))])), (e, .inl (cI, 8, .inl X.1)), (h, .inr (4, [.ref a, .int (nI ((jc_tx C).2))])), (a, .inl (cI, 68, .inl X.2.1)), (g, .inr (2, [.ref b0, .ref b1, .ref b2, .int (nI (jc_ln C))])), (b0, .inl (cI, 68, .inl X.2.2.1)), (b1, .inl (cI, 68, .inl X.2.2.2.1)), (b2, .inl (cZ, 68, .inl X.2.2.2.2))] sz)) 0 0 (va_A [(q, .inr (0, [.int (nI c), .ref h, .ref g, .ref e, .int (nI (jc_pn C)), .int (nI (jc_bk C)), .int (nI (jc_rv C)), .int (nI (jc_on C))])), (e, .inl (cI, 8, .inl X.1)), (h, .inr (4, [.ref a, .int (nI ((jc_tx C).2))])), (a, .inl (cI, 68, .inl X.2.1)), (g, .inr (2, [.ref b0, .ref b1, .ref b2, .int (nI (jc_ln C))])), (b0, .inl (cI, 68, .inl X.2.2.1)), (b1, .inl (cI, 68, .inl X.2.2.2.1)), (b2, .inl (cZ, 68, .inl X.2.2.2.2))] sz) := by
  refine Met.ofW (cc := c_C_getOwnBack) (maxL := 1) (ret := none) (by decide) rfl ?_
  intro pg0 en0 s m args below meth cd0 s₁ B hml hv
  obtain ⟨rfl, hsz, hP, hK, hD0⟩ := hv
  have hx := B.exec
  have hb := B.bytes
  have hr := B.returns
  have hts := atoms_spec (ws := w_C_getOwnBack) B.pre
  have ht : ∀ w ∈ jw_tbl, w.before _ s = true := fun w h => hts w (List.mem_cons_of_mem _ h)
  have hown : s.vm.findClass jn_C = some m.cls := findClass_of_methodNamed B.named
  have hlocks := B.notSynchronized
  subst hsz
  have hD := hD0.self (sz := s.heap.size)
  generalize hAe : va_A [(q, .inr (0, [.int (nI c), .ref h, .ref g, .ref e, .int (nI (jc_pn C)), .int (nI (jc_bk C)), .int (nI (jc_rv C)), .int (nI (jc_on C))])), (e, .inl (cI, 8, .inl X.1)), (h, .inr (4, [.ref a, .int (nI ((jc_tx C).2))])), (a, .inl (cI, 68, .inl X.2.1)), (g, .inr (2, [.ref b0, .ref b1, .ref b2, .int (nI (jc_ln C))])), (b0, .inl (cI, 68, .inl X.2.2.1)), (b1, .inl (cI, 68, .inl X.2.2.2.1)), (b2, .inl (cZ, 68, .inl X.2.2.2.2))] s.heap.size = A at hD ⊢
  have hA : ∀ q : Nat, s.heap.size ≤ q → A q := fun q h => by rw [← hAe]; exact Or.inr h
  have hS : va_S A s.heap s.heap [] := va_S.rf
  have hP : va_P D jw_cl [(q, .inr (0, [.int (nI c), .ref h, .ref g, .ref e, .int (nI (jc_pn C)), .int (nI (jc_bk C)), .int (nI (jc_rv C)), .int (nI (jc_on C))])), (e, .inl (cI, 8, .inl X.1)), (h, .inr (4, [.ref a, .int (nI ((jc_tx C).2))])), (a, .inl (cI, 68, .inl X.2.1)), (g, .inr (2, [.ref b0, .ref b1, .ref b2, .int (nI (jc_ln C))])), (b0, .inl (cI, 68, .inl X.2.2.1)), (b1, .inl (cI, 68, .inl X.2.2.2.1)), (b2, .inl (cZ, 68, .inl X.2.2.2.2))] s.heap := hP
  have hl := lv_entry ([.ref q]) (n := 1) (Nat.le_of_ble_eq_true rfl)
  rw [lg_entry_eq]
  generalize (lg_sl ([.ref q]) ++ List.replicate (1 - (lg_sl ([.ref q])).length) Slot.unset).toArray = ls at hl ⊢
  have hl : lv_has ls 1 [(0, .ref q)] := hl
  have hpn8 := hC.1.2.1
  have hrv0 : jc_rv C ≤ N0 := hC.1.1
  refine lv_aload_n hx hb d_C_getOwnBack_0 rfl (lv_at hl 0 rfl) ?_
  refine lv_dup hx hb d_C_getOwnBack_1 rfl ?_
  refine va_get (D := D) (ci := 0) (v := .int (nI (jc_rv C))) (C := jn_C) (T := jf_C) (N := 8) hx hb ht ji_C hown hK hP 0 rfl rfl 6 (by decide) (ht _ k_C_36) (fun _ h9 => h9) rfl d_C_getOwnBack_2 ?_
  refine lv_iconst (v := nI 1) hx hb d_C_getOwnBack_5 (by decide) ?_
  refine lv_iadd hx hb d_C_getOwnBack_6 ?_
  refine lv_topi (fun v1 ev1 => ?_)
  obtain rfl : v1 = nI (jc_rv C + 1) := ev1.trans (nI_add _ _)
  refine va_put (D := D) (ci := 0) (v := .int (nI (jc_rv C + 1))) (ty := .int) (C := jn_C) (T := jf_C) (N := 8) hx hb ht ji_C jy_C jo_C jm_C hown hK hP hD hS 0 rfl rfl 6 (by decide) (ht _ k_C_36) (fun _ h9 => h9) rfl (by decide +kernel) rfl rfl (Nat.le_of_ble_eq_true rfl) d_C_getOwnBack_7 (fun H locs hP hD hS => ?_)
  have hP : va_P D jw_cl [(q, .inr (0, [.int (nI c), .ref h, .ref g, .ref e, .int (nI (jc_pn C)), .int (nI (jc_bk C)), .int (nI (jc_rv C + 1)), .int (nI (jc_on C))])), (e, .inl (cI, 8, .inl X.1)), (h, .inr (4, [.ref a, .int (nI ((jc_tx C).2))])), (a, .inl (cI, 68, .inl X.2.1)), (g, .inr (2, [.ref b0, .ref b1, .ref b2, .int (nI (jc_ln C))])), (b0, .inl (cI, 68, .inl X.2.2.1)), (b1, .inl (cI, 68, .inl X.2.2.2.1)), (b2, .inl (cZ, 68, .inl X.2.2.2.2))] H := hP
  have hD : va_D A [(q, .inr (0, [.int (nI c), .ref h, .ref g, .ref e, .int (nI (jc_pn C)), .int (nI (jc_bk C)), .int (nI (jc_rv C + 1)), .int (nI (jc_on C))])), (e, .inl (cI, 8, .inl X.1)), (h, .inr (4, [.ref a, .int (nI ((jc_tx C).2))])), (a, .inl (cI, 68, .inl X.2.1)), (g, .inr (2, [.ref b0, .ref b1, .ref b2, .int (nI (jc_ln C))])), (b0, .inl (cI, 68, .inl X.2.2.1)), (b1, .inl (cI, 68, .inl X.2.2.2.1)), (b2, .inl (cZ, 68, .inl X.2.2.2.2))] := hD
  refine lv_aload_n hx hb d_C_getOwnBack_10 rfl (lv_at hl 0 rfl) ?_
  refine va_get (D := D) (ci := 0) (v := .int (nI (jc_pn C))) (C := jn_C) (T := jf_C) (N := 8) hx hb ht ji_C hown hK hP 0 rfl rfl 4 (by decide) (ht _ k_C_29) (fun _ h9 => h9) rfl d_C_getOwnBack_11 ?_
  refine lv_if_ne (tgt := 18) hx hb d_C_getOwnBack_14 (by decide) (fun h14 => ?_) (fun h14 => absurd (jw_eq0 (by omega) h14) (by omega))
  have h14 := jw_ne0 (by omega) h14
  refine lv_aload_n hx hb d_C_getOwnBack_18 rfl (lv_at hl 0 rfl) ?_
  refine va_get (D := D) (ci := 0) (v := .ref e) (C := jn_C) (T := jf_C) (N := 8) hx hb ht ji_C hown hK hP 0 rfl rfl 3 (by decide) (ht _ k_C_25) (fun _ h9 => h9) rfl d_C_getOwnBack_19 ?_
  refine lv_iconst (v := nI 1) hx hb d_C_getOwnBack_22 (by decide) ?_
  refine lv_aload_n hx hb d_C_getOwnBack_23 rfl (lv_at hl 0 rfl) ?_
  refine va_get (D := D) (ci := 0) (v := .ref e) (C := jn_C) (T := jf_C) (N := 8) hx hb ht ji_C hown hK hP 0 rfl rfl 3 (by decide) (ht _ k_C_25) (fun _ h9 => h9) rfl d_C_getOwnBack_24 ?_
  refine lv_iconst (v := nI 0) hx hb d_C_getOwnBack_27 (by decide) ?_
  refine lv_aload_n hx hb d_C_getOwnBack_28 rfl (lv_at hl 0 rfl) ?_
  refine va_get (D := D) (ci := 0) (v := .int (nI (jc_pn C))) (C := jn_C) (T := jf_C) (N := 8) hx hb ht ji_C hown hK hP 0 rfl rfl 4 (by decide) (ht _ k_C_29) (fun _ h9 => h9) rfl d_C_getOwnBack_29 ?_
  refine lv_iconst (v := nI 1) hx hb d_C_getOwnBack_32 (by decide) ?_
  refine lv_isub hx hb d_C_getOwnBack_33 ?_
  refine lv_topi (fun v2 ev2 => ?_)
  obtain rfl : v2 = nI ((jc_pn C) - 1) := ev2.trans (pk_sub (by omega))
  refine va_copyi hx hb (hml.trans hl.1.symm) hown (ht _ k_C_62) (ht _ k_ac_n) (ht _ k_ac_s) (ht _ k_ac_i) hK hP hD hS 1 1 0 0 rfl rfl rfl rfl rfl (nI_pos (by omega)) (nI_pos (by omega)) (nI_pos (by omega)) (by rw [show (nI 1).toNatClampNeg = 1 from nI_clamp (by omega), show (nI ((jc_pn C) - 1)).toNatClampNeg = (jc_pn C) - 1 from nI_clamp (by omega)]; omega) (by rw [show (nI 0).toNatClampNeg = 0 from nI_clamp (by omega), show (nI ((jc_pn C) - 1)).toNatClampNeg = (jc_pn C) - 1 from nI_clamp (by omega)]; omega) (fun _ _ => rfl) (Nat.le_of_ble_eq_true rfl) (Nat.le_of_ble_eq_true rfl) d_C_getOwnBack_34 (fun H locs hP hD hS => ?_)
  try rw [show (nI 1).toNatClampNeg = 1 from nI_clamp (by omega)] at hP hD
  try rw [show (nI 0).toNatClampNeg = 0 from nI_clamp (by omega)] at hP hD
  try rw [show (nI ((jc_pn C) - 1)).toNatClampNeg = (jc_pn C) - 1 from nI_clamp (by omega)] at hP hD
  have hP : va_P D jw_cl [(q, .inr (0, [.int (nI c), .ref h, .ref g, .ref e, .int (nI (jc_pn C)), .int (nI (jc_bk C)), .int (nI (jc_rv C + 1)), .int (nI (jc_on C))])), (e, .inl (cI, 8, .inl (va_cpy X.1 X.1 1 0 ((jc_pn C) - 1)))), (h, .inr (4, [.ref a, .int (nI ((jc_tx C).2))])), (a, .inl (cI, 68, .inl X.2.1)), (g, .inr (2, [.ref b0, .ref b1, .ref b2, .int (nI (jc_ln C))])), (b0, .inl (cI, 68, .inl X.2.2.1)), (b1, .inl (cI, 68, .inl X.2.2.2.1)), (b2, .inl (cZ, 68, .inl X.2.2.2.2))] H := hP
  have hD : va_D A [(q, .inr (0, [.int (nI c), .ref h, .ref g, .ref e, .int (nI (jc_pn C)), .int (nI (jc_bk C)), .int (nI (jc_rv C + 1)), .int (nI (jc_on C))])), (e, .inl (cI, 8, .inl (va_cpy X.1 X.1 1 0 ((jc_pn C) - 1)))), (h, .inr (4, [.ref a, .int (nI ((jc_tx C).2))])), (a, .inl (cI, 68, .inl X.2.1)), (g, .inr (2, [.ref b0, .ref b1, .ref b2, .int (nI (jc_ln C))])), (b0, .inl (cI, 68, .inl X.2.2.1)), (b1, .inl (cI, 68, .inl X.2.2.2.1)), (b2, .inl (cZ, 68, .inl X.2.2.2.2))] := hD
  refine lv_aload_n hx hb d_C_getOwnBack_37 rfl (lv_at hl 0 rfl) ?_
  refine lv_dup hx hb d_C_getOwnBack_38 rfl ?_
  refine va_get (D := D) (ci := 0) (v := .int (nI (jc_pn C))) (C := jn_C) (T := jf_C) (N := 8) hx hb ht ji_C hown hK hP 0 rfl rfl 4 (by decide) (ht _ k_C_29) (fun _ h9 => h9) rfl d_C_getOwnBack_39 ?_
  refine lv_iconst (v := nI 1) hx hb d_C_getOwnBack_42 (by decide) ?_
  refine lv_isub hx hb d_C_getOwnBack_43 ?_
  refine lv_topi (fun v3 ev3 => ?_)
  obtain rfl : v3 = nI ((jc_pn C) - 1) := ev3.trans (pk_sub (by omega))
  refine va_put (D := D) (ci := 0) (v := .int (nI ((jc_pn C) - 1))) (ty := .int) (C := jn_C) (T := jf_C) (N := 8) hx hb ht ji_C jy_C jo_C jm_C hown hK hP hD hS 0 rfl rfl 4 (by decide) (ht _ k_C_29) (fun _ h9 => h9) rfl (by decide +kernel) rfl rfl (Nat.le_of_ble_eq_true rfl) d_C_getOwnBack_44 (fun H locs hP hD hS => ?_)
  have hP : va_P D jw_cl [(q, .inr (0, [.int (nI c), .ref h, .ref g, .ref e, .int (nI ((jc_pn C) - 1)), .int (nI (jc_bk C)), .int (nI (jc_rv C + 1)), .int (nI (jc_on C))])), (e, .inl (cI, 8, .inl (va_cpy X.1 X.1 1 0 ((jc_pn C) - 1)))), (h, .inr (4, [.ref a, .int (nI ((jc_tx C).2))])), (a, .inl (cI, 68, .inl X.2.1)), (g, .inr (2, [.ref b0, .ref b1, .ref b2, .int (nI (jc_ln C))])), (b0, .inl (cI, 68, .inl X.2.2.1)), (b1, .inl (cI, 68, .inl X.2.2.2.1)), (b2, .inl (cZ, 68, .inl X.2.2.2.2))] H := hP
  have hD : va_D A [(q, .inr (0, [.int (nI c), .ref h, .ref g, .ref e, .int (nI ((jc_pn C) - 1)), .int (nI (jc_bk C)), .int (nI (jc_rv C + 1)), .int (nI (jc_on C))])), (e, .inl (cI, 8, .inl (va_cpy X.1 X.1 1 0 ((jc_pn C) - 1)))), (h, .inr (4, [.ref a, .int (nI ((jc_tx C).2))])), (a, .inl (cI, 68, .inl X.2.1)), (g, .inr (2, [.ref b0, .ref b1, .ref b2, .int (nI (jc_ln C))])), (b0, .inl (cI, 68, .inl X.2.2.1)), (b1, .inl (cI, 68, .inl X.2.2.2.1)), (b2, .inl (cZ, 68, .inl X.2.2.2.2))] := hD
  refine lv_aload_n hx hb d_C_getOwnBack_47 rfl (lv_at hl 0 rfl) ?_
  refine lv_dup hx hb d_C_getOwnBack_48 rfl ?_
  refine va_get (D := D) (ci := 0) (v := .int (nI (jc_bk C))) (C := jn_C) (T := jf_C) (N := 8) hx hb ht ji_C hown hK hP 0 rfl rfl 5 (by decide) (ht _ k_C_33) (fun _ h9 => h9) rfl d_C_getOwnBack_49 ?_
  refine lv_iconst (v := nI 1) hx hb d_C_getOwnBack_52 (by decide) ?_
  refine lv_iadd hx hb d_C_getOwnBack_53 ?_
  refine lv_topi (fun v4 ev4 => ?_)
  obtain rfl : v4 = nI (jc_bk C + 1) := ev4.trans (nI_add _ _)
  refine va_put (D := D) (ci := 0) (v := .int (nI (jc_bk C + 1))) (ty := .int) (C := jn_C) (T := jf_C) (N := 8) hx hb ht ji_C jy_C jo_C jm_C hown hK hP hD hS 0 rfl rfl 5 (by decide) (ht _ k_C_33) (fun _ h9 => h9) rfl (by decide +kernel) rfl rfl (Nat.le_of_ble_eq_true rfl) d_C_getOwnBack_54 (fun H locs hP hD hS => ?_)
  have hP : va_P D jw_cl [(q, .inr (0, [.int (nI c), .ref h, .ref g, .ref e, .int (nI ((jc_pn C) - 1)), .int (nI (jc_bk C + 1)), .int (nI (jc_rv C + 1)), .int (nI (jc_on C))])), (e, .inl (cI, 8, .inl (va_cpy X.1 X.1 1 0 ((jc_pn C) - 1)))), (h, .inr (4, [.ref a, .int (nI ((jc_tx C).2))])), (a, .inl (cI, 68, .inl X.2.1)), (g, .inr (2, [.ref b0, .ref b1, .ref b2, .int (nI (jc_ln C))])), (b0, .inl (cI, 68, .inl X.2.2.1)), (b1, .inl (cI, 68, .inl X.2.2.2.1)), (b2, .inl (cZ, 68, .inl X.2.2.2.2))] H := hP
  have hD : va_D A [(q, .inr (0, [.int (nI c), .ref h, .ref g, .ref e, .int (nI ((jc_pn C) - 1)), .int (nI (jc_bk C + 1)), .int (nI (jc_rv C + 1)), .int (nI (jc_on C))])), (e, .inl (cI, 8, .inl (va_cpy X.1 X.1 1 0 ((jc_pn C) - 1)))), (h, .inr (4, [.ref a, .int (nI ((jc_tx C).2))])), (a, .inl (cI, 68, .inl X.2.1)), (g, .inr (2, [.ref b0, .ref b1, .ref b2, .int (nI (jc_ln C))])), (b0, .inl (cI, 68, .inl X.2.2.1)), (b1, .inl (cI, 68, .inl X.2.2.2.1)), (b2, .inl (cZ, 68, .inl X.2.2.2.2))] := hD
  exact W.vret hx hb hr (fun t9 ht9 hW9 => ⟨⟨(va_cpy X.1 X.1 1 0 ((jc_pn C) - 1), X.2.1, X.2.2.1, X.2.2.2.1, X.2.2.2.2), rfl, jt_rc_ow hX hp, by rw [ht9]; exact hP, hD⟩, hS.F ht9⟩) hS.2.2 d_C_getOwnBack_57

set_option maxHeartbeats 4000000 in
set_option maxRecDepth 100000 in
theorem m_C_getOther (l : Launch) (D : va_G) (sz : Nat) (q e h a g b0 b1 b2 : Nat) (cI cZ : ClassId) (c : Nat) (C : jt_C) (X : jt_X) (H0 : Nat → jt_O) (N0 : Nat) (hC : jt_ci H0 N0 c C) (hN : N0 ≤ 60) (hX : jt_rc X C) (hH : jt_all H0 N0) (hr0 : jc_rv C < N0) : Met l y_C_getOther w_C_getOther ({ frames := 4, cells := 0, slots := 0, locals := 87 }) (jw_C [.ref q, .int (nI (jt_po (H0 (jc_rv C))))] D jw_cl [(q, .inr (0, [.int (nI c), .ref h, .ref g, .ref e, .int (nI (jc_pn C)), .int (nI (jc_bk C)), .int (nI (jc_rv C)), .int (nI (jc_on C))])), (e, .inl (cI, 8, .inl X.1)), (h, .inr (4, [.ref a, .int (nI ((jc_tx C).2))])), (a, .inl (cI, 68, .inl X.2.1)), (g, .inr (2, [.ref b0, .ref b1, .ref b2, .int (nI (jc_ln C))])), (b0, .inl (cI, 68, .inl X.2.2.1)), (b1, .inl (cI, 68, .inl X.2.2.2.1)), (b2, .inl (cZ, 68, .inl X.2.2.2.2))] [(cI, .int), (cZ, .boolean)] sz) (va_Qv (fun u : jt_X => jt_rc u (jt_ot C (H0 (jc_rv C)))) (jw_B D jw_cl (va_A [(q, .inr (0, [.int (nI c), .ref h, .ref g, .ref e, .int (nI (jc_pn C)), .int (nI (jc_bk C)), .int (nI (jc_rv C)), .int (nI (jc_on C))])), (e, .inl (cI, 8, .inl X.1)), (h, .inr (4, [.ref a, .int (nI ((jc_tx C).2))])), (a, .inl (cI, 68, .inl X.2.1)), (g, .inr (2, [.ref b0, .ref b1, .ref b2, .int (nI (jc_ln C))])), (b0, .inl (cI, 68, .inl X.2.2.1)), (b1, .inl (cI, 68, .inl X.2.2.2.1)), (b2, .inl (cZ, 68, .inl X.2.2.2.2))] sz) (fun u : jt_X => jx_c q e h a g b0 b1 b2 cI cZ c (jt_ot C (H0 (jc_rv C))) u)) (va_A [(q, .inr (0, [.int (nI c), .ref h, .ref g, .ref e, .int (nI (jc_pn C)), .int (nI (jc_bk C)), .int (nI (jc_rv C)), .int (nI (jc_on C))])), (e, .inl (cI, 8, .inl X.1)), (h, .inr (4, [.ref a, .int (nI ((jc_tx C).2))])), (a, .inl (cI, 68, .inl X.2.1)), (g, .inr (2, [.ref b0, .ref b1, .ref b2, .int (nI (jc_ln C))])), (b0, .inl (cI, 68, .inl X.2.2.1)), (b1, .inl (cI, 68, .inl X.2.2.2.1)), (b2, .inl (cZ, 68, .inl X.2.2.2.2))] sz)) 0 0 (va_A [(q, .inr (0, [.int (nI c), .ref h, .ref g, .ref e, .int (nI (jc_pn C)), .int (nI (jc_bk C)), .int (nI (jc_rv C)), .int (nI (jc_on C))])), (e, .inl (cI, 8, .inl X.1)), (h, .inr (4, [.ref a, .int (nI ((jc_tx C).2))])), (a, .inl (cI, 68, .inl X.2.1)), (g, .inr (2, [.ref b0, .ref b1, .ref b2, .int (nI (jc_ln C))])), (b0, .inl (cI, 68, .inl X.2.2.1)), (b1, .inl (cI, 68, .inl X.2.2.2.1)), (b2, .inl (cZ, 68, .inl X.2.2.2.2))] sz) := by
  refine Met.ofW (cc := c_C_getOther) (maxL := 5) (ret := none) (by decide) rfl ?_
  intro pg0 en0 s m args below meth cd0 s₁ B hml hv
  obtain ⟨rfl, hsz, hP, hK, hD0⟩ := hv
  have hx := B.exec
  have hb := B.bytes
  have hr := B.returns
  have hts := atoms_spec (ws := w_C_getOther) B.pre
  have ht : ∀ w ∈ jw_tbl, w.before _ s = true := fun w h => hts w (List.mem_cons_of_mem _ h)
  have hown : s.vm.findClass jn_C = some m.cls := findClass_of_methodNamed B.named
  have hlocks := B.notSynchronized
  subst hsz
  have hD := hD0.self (sz := s.heap.size)
  generalize hAe : va_A [(q, .inr (0, [.int (nI c), .ref h, .ref g, .ref e, .int (nI (jc_pn C)), .int (nI (jc_bk C)), .int (nI (jc_rv C)), .int (nI (jc_on C))])), (e, .inl (cI, 8, .inl X.1)), (h, .inr (4, [.ref a, .int (nI ((jc_tx C).2))])), (a, .inl (cI, 68, .inl X.2.1)), (g, .inr (2, [.ref b0, .ref b1, .ref b2, .int (nI (jc_ln C))])), (b0, .inl (cI, 68, .inl X.2.2.1)), (b1, .inl (cI, 68, .inl X.2.2.2.1)), (b2, .inl (cZ, 68, .inl X.2.2.2.2))] s.heap.size = A at hD ⊢
  have hA : ∀ q : Nat, s.heap.size ≤ q → A q := fun q h => by rw [← hAe]; exact Or.inr h
  have hS : va_S A s.heap s.heap [] := va_S.rf
  have hP : va_P D jw_cl [(q, .inr (0, [.int (nI c), .ref h, .ref g, .ref e, .int (nI (jc_pn C)), .int (nI (jc_bk C)), .int (nI (jc_rv C)), .int (nI (jc_on C))])), (e, .inl (cI, 8, .inl X.1)), (h, .inr (4, [.ref a, .int (nI ((jc_tx C).2))])), (a, .inl (cI, 68, .inl X.2.1)), (g, .inr (2, [.ref b0, .ref b1, .ref b2, .int (nI (jc_ln C))])), (b0, .inl (cI, 68, .inl X.2.2.1)), (b1, .inl (cI, 68, .inl X.2.2.2.1)), (b2, .inl (cZ, 68, .inl X.2.2.2.2))] s.heap := hP
  have hl := lv_entry ([.ref q, .int (nI (jt_po (H0 (jc_rv C))))]) (n := 5) (Nat.le_of_ble_eq_true rfl)
  rw [lg_entry_eq]
  generalize (lg_sl ([.ref q, .int (nI (jt_po (H0 (jc_rv C))))]) ++ List.replicate (5 - (lg_sl ([.ref q, .int (nI (jt_po (H0 (jc_rv C))))])).length) Slot.unset).toArray = ls at hl ⊢
  have hl : lv_has ls 5 [(0, .ref q), (1, .int (nI (jt_po (H0 (jc_rv C)))))] := hl
  have hpn8 := hC.1.2.1
  have hln0 : jc_ln C = jc_rv C + jc_pn C := hC.1.2.2.1
  have hln : jc_ln C < 68 := by omega
  have htx : (jc_tx C).2 ≤ 68 := by have : (jc_tx C).2 ≤ jc_ln C := jt_le_le _ _; omega
  have htx2 : (jc_tx C).2 ≤ jc_ln C := jt_le_le _ _
  have hosm := jt_osm hC hH hN hr0
  have hpsm := jt_ci_psm hC hN
  refine lv_aload_n hx hb d_C_getOther_0 rfl (lv_at hl 0 rfl) ?_
  refine lv_dup hx hb d_C_getOther_1 rfl ?_
  refine va_get (D := D) (ci := 0) (v := .int (nI (jc_rv C))) (C := jn_C) (T := jf_C) (N := 8) hx hb ht ji_C hown hK hP 0 rfl rfl 6 (by decide) (ht _ k_C_36) (fun _ h9 => h9) rfl d_C_getOther_2 ?_
  refine lv_iconst (v := nI 1) hx hb d_C_getOther_5 (by decide) ?_
  refine lv_iadd hx hb d_C_getOther_6 ?_
  refine lv_topi (fun v1 ev1 => ?_)
  obtain rfl : v1 = nI (jc_rv C + 1) := ev1.trans (nI_add _ _)
  refine va_put (D := D) (ci := 0) (v := .int (nI (jc_rv C + 1))) (ty := .int) (C := jn_C) (T := jf_C) (N := 8) hx hb ht ji_C jy_C jo_C jm_C hown hK hP hD hS 0 rfl rfl 6 (by decide) (ht _ k_C_36) (fun _ h9 => h9) rfl (by decide +kernel) rfl rfl (Nat.le_of_ble_eq_true rfl) d_C_getOther_7 (fun H locs hP hD hS => ?_)
  have hP : va_P D jw_cl [(q, .inr (0, [.int (nI c), .ref h, .ref g, .ref e, .int (nI (jc_pn C)), .int (nI (jc_bk C)), .int (nI (jc_rv C + 1)), .int (nI (jc_on C))])), (e, .inl (cI, 8, .inl X.1)), (h, .inr (4, [.ref a, .int (nI ((jc_tx C).2))])), (a, .inl (cI, 68, .inl X.2.1)), (g, .inr (2, [.ref b0, .ref b1, .ref b2, .int (nI (jc_ln C))])), (b0, .inl (cI, 68, .inl X.2.2.1)), (b1, .inl (cI, 68, .inl X.2.2.2.1)), (b2, .inl (cZ, 68, .inl X.2.2.2.2))] H := hP
  have hD : va_D A [(q, .inr (0, [.int (nI c), .ref h, .ref g, .ref e, .int (nI (jc_pn C)), .int (nI (jc_bk C)), .int (nI (jc_rv C + 1)), .int (nI (jc_on C))])), (e, .inl (cI, 8, .inl X.1)), (h, .inr (4, [.ref a, .int (nI ((jc_tx C).2))])), (a, .inl (cI, 68, .inl X.2.1)), (g, .inr (2, [.ref b0, .ref b1, .ref b2, .int (nI (jc_ln C))])), (b0, .inl (cI, 68, .inl X.2.2.1)), (b1, .inl (cI, 68, .inl X.2.2.2.1)), (b2, .inl (cZ, 68, .inl X.2.2.2.2))] := hD
  refine lv_iload_n hx hb d_C_getOther_10 rfl (lv_at hl 1 rfl) ?_
  refine lv_istore_n (lv' := [(2, .int (nI (jt_po (H0 (jc_rv C))))), (0, .ref q), (1, .int (nI (jt_po (H0 (jc_rv C)))))]) hx hb d_C_getOther_11 rfl hl (by decide) rfl (fun ls hl => ?_)
  refine lv_iconst (v := nI 0) hx hb d_C_getOther_12 (by decide) ?_
  refine lv_istore_n (lv' := [(3, .int (nI 0)), (2, .int (nI (jt_po (H0 (jc_rv C))))), (0, .ref q), (1, .int (nI (jt_po (H0 (jc_rv C)))))]) hx hb d_C_getOther_13 rfl hl (by decide) rfl (fun ls hl => ?_)
  refine jw_loop (I := fun k ls H locs => ∃ (i : Nat) (fp : Nat → Int32), k = jc_pn C - i ∧ i ≤ jc_pn C ∧ lv_has ls 5 [(3, .int (nI i)), (2, .int (nI (jt_po (jt_oc (jc_pe C) (H0 (jc_rv C)) i)))), (0, .ref q), (1, .int (nI (jt_po (H0 (jc_rv C)))))] ∧ (∀ j, j < i → fp j = nI (jt_po (jt_pp (jc_pe C) (H0 (jc_rv C)) j))) ∧ (∀ j, i ≤ j → j < jc_pn C → fp j = nI (jt_po (jc_pe C j))) ∧ va_P D jw_cl [(q, .inr (0, [.int (nI c), .ref h, .ref g, .ref e, .int (nI (jc_pn C)), .int (nI (jc_bk C)), .int (nI (jc_rv C + 1)), .int (nI (jc_on C))])), (e, .inl (cI, 8, .inl fp)), (h, .inr (4, [.ref a, .int (nI ((jc_tx C).2))])), (a, .inl (cI, 68, .inl X.2.1)), (g, .inr (2, [.ref b0, .ref b1, .ref b2, .int (nI (jc_ln C))])), (b0, .inl (cI, 68, .inl X.2.2.1)), (b1, .inl (cI, 68, .inl X.2.2.2.1)), (b2, .inl (cZ, 68, .inl X.2.2.2.2))] H ∧ va_D A [(q, .inr (0, [.int (nI c), .ref h, .ref g, .ref e, .int (nI (jc_pn C)), .int (nI (jc_bk C)), .int (nI (jc_rv C + 1)), .int (nI (jc_on C))])), (e, .inl (cI, 8, .inl fp)), (h, .inr (4, [.ref a, .int (nI ((jc_tx C).2))])), (a, .inl (cI, 68, .inl X.2.1)), (g, .inr (2, [.ref b0, .ref b1, .ref b2, .int (nI (jc_ln C))])), (b0, .inl (cI, 68, .inl X.2.2.1)), (b1, .inl (cI, 68, .inl X.2.2.2.1)), (b2, .inl (cZ, 68, .inl X.2.2.2.2))] ∧ va_S A s.heap H locs) (jc_pn C) ⟨0, X.1, rfl, Nat.zero_le _, hl, fun j hj => absurd hj (Nat.not_lt_zero _), fun j _ hj => hX.1 j hj, hP, hD, hS⟩ (fun k ls H locs hI ih => ?_)
  obtain ⟨i, fp, hk, hi1, hl, hp1, hp2, hP, hD, hS⟩ := hI
  refine lv_iload_n hx hb d_C_getOther_14 rfl (lv_at hl 0 rfl) ?_
  refine lv_aload_n hx hb d_C_getOther_15 rfl (lv_at hl 2 rfl) ?_
  refine va_get (D := D) (ci := 0) (v := .int (nI (jc_pn C))) (C := jn_C) (T := jf_C) (N := 8) hx hb ht ji_C hown hK hP 0 rfl rfl 4 (by decide) (ht _ k_C_29) (fun _ h9 => h9) rfl d_C_getOther_16 ?_
  refine lv_icmp_ge (tgt := 55) hx hb d_C_getOther_19 (by decide) (fun h19 => ?_) (fun h19 => ?_)
  · skip
    have h19 := jw_ge (by omega) (by omega) h19
    have ei : i = jc_pn C := by omega
    rw [ei] at hl hp1
    refine lv_aload_n hx hb d_C_getOther_55 rfl (lv_at hl 2 rfl) ?_
    refine va_get (D := D) (ci := 0) (v := .ref g) (C := jn_C) (T := jf_C) (N := 8) hx hb ht ji_C hown hK hP 0 rfl rfl 2 (by decide) (ht _ k_C_21) (fun _ h9 => h9) rfl d_C_getOther_56 ?_
    refine lv_iload_n hx hb d_C_getOther_59 rfl (lv_at hl 1 rfl) ?_
    refine lv_aload_n hx hb d_C_getOther_60 rfl (lv_at hl 2 rfl) ?_
    refine va_get (D := D) (ci := 0) (v := .ref h) (C := jn_C) (T := jf_C) (N := 8) hx hb ht ji_C hown hK hP 0 rfl rfl 1 (by decide) (ht _ k_C_12) (fun _ h9 => h9) rfl d_C_getOther_61 ?_
    refine lv_iload_n hx hb d_C_getOther_64 rfl (lv_at hl 1 rfl) ?_
    refine jw_ji (ws := [(q, .inr (0, [.int (nI c), .ref h, .ref g, .ref e, .int (nI (jc_pn C)), .int (nI (jc_bk C)), .int (nI (jc_rv C + 1)), .int (nI (jc_on C))])), (e, .inl (cI, 8, .inl fp)), (h, .inr (4, [.ref a, .int (nI ((jc_tx C).2))])), (a, .inl (cI, 68, .inl X.2.1)), (g, .inr (2, [.ref b0, .ref b1, .ref b2, .int (nI (jc_ln C))])), (b0, .inl (cI, 68, .inl X.2.2.1)), (b1, .inl (cI, 68, .inl X.2.2.2.1)), (b2, .inl (cZ, 68, .inl X.2.2.2.2))]) (wc := [(h, .inr (4, [.ref a, .int (nI ((jc_tx C).2))])), (a, .inl (cI, 68, .inl X.2.1))]) (wr := [(q, .inr (0, [.int (nI c), .ref h, .ref g, .ref e, .int (nI (jc_pn C)), .int (nI (jc_bk C)), .int (nI (jc_rv C + 1)), .int (nI (jc_on C))])), (e, .inl (cI, 8, .inl fp)), (g, .inr (2, [.ref b0, .ref b1, .ref b2, .int (nI (jc_ln C))])), (b0, .inl (cI, 68, .inl X.2.2.1)), (b1, .inl (cI, 68, .inl X.2.2.2.1)), (b2, .inl (cZ, 68, .inl X.2.2.2.2))]) (jw_uV (As := [.int (nI (jt_po (jt_oc (jc_pe C) (H0 (jc_rv C)) (jc_pn C))))]) (rest := [.int (nI (jt_po (jt_oc (jc_pe C) (H0 (jc_rv C)) (jc_pn C)))), .ref g]) hx hb hml hown ht (m_T_perform l D _ h a cI X.2.1 (jc_tx C) hX.2.1 htx (jt_oc (jc_pe C) (H0 (jc_rv C)) (jc_pn C)) (hosm _ (Nat.le_refl _)) (jt_ook hC hH hr0) (fun _ => by omega)) (o_T_perform) k_C_54 rfl rfl ⟨Nat.le_of_ble_eq_true rfl, Nat.le_of_ble_eq_true rfl⟩ (hP.sub [2, 3] rfl) (hK.sub [0] rfl) (hD.sub [2, 3] (by decide) rfl) (va_recv (q0 := 2) (ci := 4) hK hP rfl rfl) rfl hl.1 rfl (Nat.le_of_ble_eq_true rfl) d_C_getOther_65 ⟨Nat.zero_le _, Nat.zero_le _⟩) hP hD hS hA [2, 3] [0, 1, 4, 5, 6, 7] rfl rfl (by decide) (by decide) (fun r3 u2 H locs hu2 hP hD hS => ?_)
    have hP : va_P D jw_cl [(q, .inr (0, [.int (nI c), .ref h, .ref g, .ref e, .int (nI (jc_pn C)), .int (nI (jc_bk C)), .int (nI (jc_rv C + 1)), .int (nI (jc_on C))])), (e, .inl (cI, 8, .inl fp)), (g, .inr (2, [.ref b0, .ref b1, .ref b2, .int (nI (jc_ln C))])), (b0, .inl (cI, 68, .inl X.2.2.1)), (b1, .inl (cI, 68, .inl X.2.2.2.1)), (b2, .inl (cZ, 68, .inl X.2.2.2.2)), (h, .inr (4, [.ref a, .int (nI ((jt_pf (jc_tx C) (jt_oc (jc_pe C) (H0 (jc_rv C)) (jc_pn C))).2))])), (a, .inl (cI, 68, .inl u2))] H := hP
    have hD : va_D A [(q, .inr (0, [.int (nI c), .ref h, .ref g, .ref e, .int (nI (jc_pn C)), .int (nI (jc_bk C)), .int (nI (jc_rv C + 1)), .int (nI (jc_on C))])), (e, .inl (cI, 8, .inl fp)), (g, .inr (2, [.ref b0, .ref b1, .ref b2, .int (nI (jc_ln C))])), (b0, .inl (cI, 68, .inl X.2.2.1)), (b1, .inl (cI, 68, .inl X.2.2.2.1)), (b2, .inl (cZ, 68, .inl X.2.2.2.2)), (h, .inr (4, [.ref a, .int (nI ((jt_pf (jc_tx C) (jt_oc (jc_pe C) (H0 (jc_rv C)) (jc_pn C))).2))])), (a, .inl (cI, 68, .inl u2))] := hD
    obtain ⟨rfl, hu2⟩ := hu2
    refine lv_iconst (v := nI 0) hx hb d_C_getOther_68 (by decide) ?_
    refine jw_jv (ws := [(q, .inr (0, [.int (nI c), .ref h, .ref g, .ref e, .int (nI (jc_pn C)), .int (nI (jc_bk C)), .int (nI (jc_rv C + 1)), .int (nI (jc_on C))])), (e, .inl (cI, 8, .inl fp)), (g, .inr (2, [.ref b0, .ref b1, .ref b2, .int (nI (jc_ln C))])), (b0, .inl (cI, 68, .inl X.2.2.1)), (b1, .inl (cI, 68, .inl X.2.2.2.1)), (b2, .inl (cZ, 68, .inl X.2.2.2.2)), (h, .inr (4, [.ref a, .int (nI ((jt_pf (jc_tx C) (jt_oc (jc_pe C) (H0 (jc_rv C)) (jc_pn C))).2))])), (a, .inl (cI, 68, .inl u2))]) (wc := [(g, .inr (2, [.ref b0, .ref b1, .ref b2, .int (nI (jc_ln C))])), (b0, .inl (cI, 68, .inl X.2.2.1)), (b1, .inl (cI, 68, .inl X.2.2.2.1)), (b2, .inl (cZ, 68, .inl X.2.2.2.2))]) (wr := [(q, .inr (0, [.int (nI c), .ref h, .ref g, .ref e, .int (nI (jc_pn C)), .int (nI (jc_bk C)), .int (nI (jc_rv C + 1)), .int (nI (jc_on C))])), (e, .inl (cI, 8, .inl fp)), (h, .inr (4, [.ref a, .int (nI ((jt_pf (jc_tx C) (jt_oc (jc_pe C) (H0 (jc_rv C)) (jc_pn C))).2))])), (a, .inl (cI, 68, .inl u2))]) (jw_uV (As := [.int (nI (jt_po (jt_oc (jc_pe C) (H0 (jc_rv C)) (jc_pn C)))), .int (nI (jt_ch (jc_tx C) (jt_oc (jc_pe C) (H0 (jc_rv C)) (jc_pn C)))), .int (nI 0)]) (rest := []) hx hb hml hown ht (m_G_add l D _ g b0 b1 b2 cI cZ X.2.2.1 X.2.2.2.1 X.2.2.2.2 C hX.2.2 (jt_oc (jc_pe C) (H0 (jc_rv C)) (jc_pn C)) (jt_ch (jc_tx C) (jt_oc (jc_pe C) (H0 (jc_rv C)) (jc_pn C))) 0 0 (by decide) (by decide) hln) (o_G_add) k_C_58 rfl rfl ⟨Nat.le_of_ble_eq_true rfl, Nat.le_of_ble_eq_true rfl⟩ (hP.sub [2, 3, 4, 5] rfl) (hK.sub [0, 1] rfl) (hD.sub [2, 3, 4, 5] (by decide) rfl) (va_recv (q0 := 2) (ci := 2) hK hP rfl rfl) rfl hl.1 rfl (Nat.le_of_ble_eq_true rfl) d_C_getOther_69 ⟨Nat.zero_le _, Nat.zero_le _⟩) hP hD hS hA [2, 3, 4, 5] [0, 1, 6, 7] rfl rfl (by decide) (by decide) (fun u4 H locs hu4 hP hD hS => ?_)
    have hP : va_P D jw_cl [(q, .inr (0, [.int (nI c), .ref h, .ref g, .ref e, .int (nI (jc_pn C)), .int (nI (jc_bk C)), .int (nI (jc_rv C + 1)), .int (nI (jc_on C))])), (e, .inl (cI, 8, .inl fp)), (h, .inr (4, [.ref a, .int (nI ((jt_pf (jc_tx C) (jt_oc (jc_pe C) (H0 (jc_rv C)) (jc_pn C))).2))])), (a, .inl (cI, 68, .inl u2)), (g, .inr (2, [.ref b0, .ref b1, .ref b2, .int (nI (jc_ln C + 1))])), (b0, .inl (cI, 68, .inl u4.1)), (b1, .inl (cI, 68, .inl u4.2.1)), (b2, .inl (cZ, 68, .inl u4.2.2))] H := hP
    have hD : va_D A [(q, .inr (0, [.int (nI c), .ref h, .ref g, .ref e, .int (nI (jc_pn C)), .int (nI (jc_bk C)), .int (nI (jc_rv C + 1)), .int (nI (jc_on C))])), (e, .inl (cI, 8, .inl fp)), (h, .inr (4, [.ref a, .int (nI ((jt_pf (jc_tx C) (jt_oc (jc_pe C) (H0 (jc_rv C)) (jc_pn C))).2))])), (a, .inl (cI, 68, .inl u2)), (g, .inr (2, [.ref b0, .ref b1, .ref b2, .int (nI (jc_ln C + 1))])), (b0, .inl (cI, 68, .inl u4.1)), (b1, .inl (cI, 68, .inl u4.2.1)), (b2, .inl (cZ, 68, .inl u4.2.2))] := hD
    have hP := hP.sub (ws' := [(q, .inr (0, [.int (nI c), .ref h, .ref g, .ref e, .int (nI (jc_pn C)), .int (nI (jc_bk C)), .int (nI (jc_rv C + 1)), .int (nI (jc_on C))])), (e, .inl (cI, 8, .inl fp)), (h, .inr (4, [.ref a, .int (nI ((jt_pf (jc_tx C) (jt_oc (jc_pe C) (H0 (jc_rv C)) (jc_pn C))).2))])), (a, .inl (cI, 68, .inl u2)), (g, .inr (2, [.ref b0, .ref b1, .ref b2, .int (nI (jc_ln C + 1))])), (b0, .inl (cI, 68, .inl u4.1)), (b1, .inl (cI, 68, .inl u4.2.1)), (b2, .inl (cZ, 68, .inl u4.2.2))]) [0, 1, 2, 3, 4, 5, 6, 7] rfl
    have hD := hD.sub (ws' := [(q, .inr (0, [.int (nI c), .ref h, .ref g, .ref e, .int (nI (jc_pn C)), .int (nI (jc_bk C)), .int (nI (jc_rv C + 1)), .int (nI (jc_on C))])), (e, .inl (cI, 8, .inl fp)), (h, .inr (4, [.ref a, .int (nI ((jt_pf (jc_tx C) (jt_oc (jc_pe C) (H0 (jc_rv C)) (jc_pn C))).2))])), (a, .inl (cI, 68, .inl u2)), (g, .inr (2, [.ref b0, .ref b1, .ref b2, .int (nI (jc_ln C + 1))])), (b0, .inl (cI, 68, .inl u4.1)), (b1, .inl (cI, 68, .inl u4.2.1)), (b2, .inl (cZ, 68, .inl u4.2.2))]) [0, 1, 2, 3, 4, 5, 6, 7] (by decide) rfl
    rw [show jt_pf (jc_tx C) (jt_oc (jc_pe C) (H0 (jc_rv C)) (jc_pn C)) = jc_tx (jt_ot C (H0 (jc_rv C))) from jt_tx_up.symm] at hP hD
    exact W.vret hx hb hr (fun t9 ht9 hW9 => ⟨⟨(fp, u2, u4.1, u4.2.1, u4.2.2), rfl, jt_rc_ot (X := X) hp1 hu2 hu4, by rw [ht9]; exact hP, hD⟩, hS.F ht9⟩) hS.2.2 d_C_getOther_72
  · skip
    have h19 := jw_nge (by omega) (by omega) h19
    refine lv_aload_n hx hb d_C_getOther_22 rfl (lv_at hl 2 rfl) ?_
    refine va_get (D := D) (ci := 0) (v := .ref e) (C := jn_C) (T := jf_C) (N := 8) hx hb ht ji_C hown hK hP 0 rfl rfl 3 (by decide) (ht _ k_C_25) (fun _ h9 => h9) rfl d_C_getOther_23 ?_
    refine lv_iload_n hx hb d_C_getOther_26 rfl (lv_at hl 0 rfl) ?_
    refine va_iald hx hb hK hP 1 0 rfl rfl (vp_in_nI (by omega) (by decide)) d_C_getOther_27 ?_
    rw [show (nI i).toNatClampNeg = i from nI_clamp (by omega)]
    rw [show fp i = nI (jt_po (jc_pe C i)) from hp2 i (Nat.le_refl _) (by omega)]
    refine lv_istore (lv' := [(4, .int (nI (jt_po (jc_pe C i)))), (3, .int (nI i)), (2, .int (nI (jt_po (jt_oc (jc_pe C) (H0 (jc_rv C)) i)))), (0, .ref q), (1, .int (nI (jt_po (H0 (jc_rv C)))))]) hx hb d_C_getOther_28 hl (by decide) rfl (fun ls hl => ?_)
    refine lv_aload_n hx hb d_C_getOther_30 rfl (lv_at hl 3 rfl) ?_
    refine va_get (D := D) (ci := 0) (v := .ref e) (C := jn_C) (T := jf_C) (N := 8) hx hb ht ji_C hown hK hP 0 rfl rfl 3 (by decide) (ht _ k_C_25) (fun _ h9 => h9) rfl d_C_getOther_31 ?_
    refine lv_iload_n hx hb d_C_getOther_34 rfl (lv_at hl 1 rfl) ?_
    refine lv_iload hx hb d_C_getOther_35 (lv_at hl 0 rfl) ?_
    refine lv_iload_n hx hb d_C_getOther_37 rfl (lv_at hl 2 rfl) ?_
    refine jw_rS (As := [.int (nI (jt_po (jc_pe C i))), .int (nI (jt_po (jt_oc (jc_pe C) (H0 (jc_rv C)) i)))]) (rest := [.int (nI i), .ref e]) hx hb hml hown ht (m_O_moved l D (jc_pe C i) (jt_oc (jc_pe C) (H0 (jc_rv C)) i) (hpsm i (by omega)) (hosm _ (by omega))) (o_O_moved) k_C_68 rfl rfl ⟨Nat.le_of_ble_eq_true rfl, Nat.le_of_ble_eq_true rfl⟩ (hP.sub [] rfl) (hK.sub [] rfl) rfl hl.1 rfl (Nat.le_of_ble_eq_true rfl) d_C_getOther_38 ⟨Nat.zero_le _, Nat.zero_le _⟩ ?_
    refine va_iast hx hb hK hP hD hS 1 0 rfl rfl (vp_in_nI (by omega) (by decide)) d_C_getOther_41 (fun H locs hP hD hS => ?_)
    rw [show (nI i).toNatClampNeg = i from nI_clamp (by omega)] at hP hD
    have hP : va_P D jw_cl [(q, .inr (0, [.int (nI c), .ref h, .ref g, .ref e, .int (nI (jc_pn C)), .int (nI (jc_bk C)), .int (nI (jc_rv C + 1)), .int (nI (jc_on C))])), (e, .inl (cI, 8, .inl (upd fp i (nI (jt_po (jt_mv (jc_pe C i) (jt_oc (jc_pe C) (H0 (jc_rv C)) i))))))), (h, .inr (4, [.ref a, .int (nI ((jc_tx C).2))])), (a, .inl (cI, 68, .inl X.2.1)), (g, .inr (2, [.ref b0, .ref b1, .ref b2, .int (nI (jc_ln C))])), (b0, .inl (cI, 68, .inl X.2.2.1)), (b1, .inl (cI, 68, .inl X.2.2.2.1)), (b2, .inl (cZ, 68, .inl X.2.2.2.2))] H := hP
    have hD : va_D A [(q, .inr (0, [.int (nI c), .ref h, .ref g, .ref e, .int (nI (jc_pn C)), .int (nI (jc_bk C)), .int (nI (jc_rv C + 1)), .int (nI (jc_on C))])), (e, .inl (cI, 8, .inl (upd fp i (nI (jt_po (jt_mv (jc_pe C i) (jt_oc (jc_pe C) (H0 (jc_rv C)) i))))))), (h, .inr (4, [.ref a, .int (nI ((jc_tx C).2))])), (a, .inl (cI, 68, .inl X.2.1)), (g, .inr (2, [.ref b0, .ref b1, .ref b2, .int (nI (jc_ln C))])), (b0, .inl (cI, 68, .inl X.2.2.1)), (b1, .inl (cI, 68, .inl X.2.2.2.1)), (b2, .inl (cZ, 68, .inl X.2.2.2.2))] := hD
    refine lv_iload_n hx hb d_C_getOther_42 rfl (lv_at hl 2 rfl) ?_
    refine lv_iload hx hb d_C_getOther_43 (lv_at hl 0 rfl) ?_
    refine jw_rS (As := [.int (nI (jt_po (jt_oc (jc_pe C) (H0 (jc_rv C)) i))), .int (nI (jt_po (jc_pe C i)))]) (rest := []) hx hb hml hown ht (m_O_moved l D (jt_oc (jc_pe C) (H0 (jc_rv C)) i) (jc_pe C i) (hosm _ (by omega)) (hpsm i (by omega))) (o_O_moved) k_C_68 rfl rfl ⟨Nat.le_of_ble_eq_true rfl, Nat.le_of_ble_eq_true rfl⟩ (hP.sub [] rfl) (hK.sub [] rfl) rfl hl.1 rfl (Nat.le_of_ble_eq_true rfl) d_C_getOther_45 ⟨Nat.zero_le _, Nat.zero_le _⟩ ?_
    refine lv_istore_n (lv' := [(2, .int (nI (jt_po (jt_mv (jt_oc (jc_pe C) (H0 (jc_rv C)) i) (jc_pe C i))))), (4, .int (nI (jt_po (jc_pe C i)))), (3, .int (nI i)), (0, .ref q), (1, .int (nI (jt_po (H0 (jc_rv C)))))]) hx hb d_C_getOther_48 rfl hl (by decide) rfl (fun ls hl => ?_)
    refine lv_iinc (v := nI (i + 1)) (lv' := [(3, .int (nI (i + 1))), (2, .int (nI (jt_po (jt_mv (jt_oc (jc_pe C) (H0 (jc_rv C)) i) (jc_pe C i))))), (4, .int (nI (jt_po (jc_pe C i)))), (0, .ref q), (1, .int (nI (jt_po (H0 (jc_rv C)))))]) hx hb d_C_getOther_49 hl (k := 2) rfl (show nI _ + Int32.ofInt 1 = nI _ from nI_add _ 1) (by decide) rfl (fun ls hl => ?_)
    refine lv_goto (tgt := 14) hx hb d_C_getOther_52 (by decide) ?_
    refine ih _ ls H locs (by omega) ⟨i + 1, upd fp i (nI (jt_po (jt_mv (jc_pe C i) (jt_oc (jc_pe C) (H0 (jc_rv C)) i)))), rfl, by omega, lv_sub hl [0, 1, 3, 4] rfl, fun j hj => ?_, fun j hj1 hj2 => ?_, hP, hD, hS⟩
    · by_cases ej : j = i
      · rw [ej, pk_us]; rfl
      · rw [pk_un ej]; exact hp1 j (by omega)
    · rw [pk_un (by omega)]; exact hp2 j (by omega) hj2
