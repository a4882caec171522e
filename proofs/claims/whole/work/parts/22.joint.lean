/-- what a client that has pending edits sends; what one that has none -/
def jt_se (c : Nat) (C : jt_C) (L : jt_L) : jt_L := if jc_on C = 0 then L else jt_sd L (0, c, jc_rv C, jc_bk C, jc_pe C 0, 0)
def jt_sk (c : Nat) (C : jt_C) (L : jt_L) : jt_L := if jc_on C = 0 then L else jt_sd L (1, c, jc_rv C, 0, (0, 0, 0, c), 0)
theorem jt_sa_0 {c : Nat} {C : jt_C} {L : jt_L} (h : jc_pn C = 0) : jt_sk c C L = jt_sa c C L := by
  unfold jt_sk jt_sa
  rw [if_pos h]
theorem jt_sa_1 {c : Nat} {C : jt_C} {L : jt_L} (h : jc_pn C ≠ 0) : jt_se c C L = jt_sa c C L := by
  unfold jt_se jt_sa
  rw [if_neg h]
theorem jt_sd_le0 {L : jt_L} {m : jt_M} (h : L.2 ≤ 30) : (if L.2 < 30 then (va_up L.1 L.2 m, L.2 + 1) else L).2 ≤ 30 := by
  split
  · show L.2 + 1 ≤ 30; omega
  · exact h
theorem jt_sd_le {L : jt_L} {m : jt_M} (h : L.2 ≤ 30) : (jt_sd L m).2 ≤ 30 := by
  unfold jt_sd
  split
  · show L.2 + 1 ≤ 30; omega
  · exact h

set_option maxHeartbeats 4000000 in
set_option maxRecDepth 100000 in
theorem m_J_sendEdit (l : Launch) (D : va_G) (sz : Nat) (x ca z nn gg : Nat) (ad : Nat → Nat) (cI cZ cG cC : ClassId) (M : Nat → Nat → Int32) (L0 : jt_L) (hM : jt_rm M L0) (hL30 : L0.2 ≤ 30) (q e h a g b0 b1 b2 : Nat) (c : Nat) (C : jt_C) (X : jt_X) (hon : jc_on C ≤ 1) (hX1 : X.1 0 = nI (jt_po (jc_pe C 0))) : Met l y_J_sendEdit w_J_sendEdit ({ frames := 2, cells := 0, slots := 0, locals := 46 }) (jw_C [.ref x, .ref q] D jw_cl (([(x, .inr (5, [.ref ca, .ref z, .ref nn])), (q, .inr (0, [.int (nI c), .ref h, .ref g, .ref e, .int (nI (jc_pn C)), .int (nI (jc_bk C)), .int (nI (jc_rv C)), .int (nI (jc_on C))])), (e, .inl (cI, 8, .inl X.1)), (nn, .inr (1, [.ref gg, .int (nI L0.2)])), (gg, .inl (cG, 30, .inr (.inr (.inr (.inr (jx_o ad))))))] : va_W) ++ jx_r ad cI M) [(cI, .int), (cZ, .boolean), (cG, .array .int), (cC, .object "JointText$Client")] sz) (va_Qv (fun u : Nat → Nat → Int32 => jt_rm u (jt_se c C L0)) (jw_B D jw_cl (va_A (([(x, .inr (5, [.ref ca, .ref z, .ref nn])), (q, .inr (0, [.int (nI c), .ref h, .ref g, .ref e, .int (nI (jc_pn C)), .int (nI (jc_bk C)), .int (nI (jc_rv C)), .int (nI (jc_on C))])), (e, .inl (cI, 8, .inl X.1)), (nn, .inr (1, [.ref gg, .int (nI L0.2)])), (gg, .inl (cG, 30, .inr (.inr (.inr (.inr (jx_o ad))))))] : va_W) ++ jx_r ad cI M) sz) (fun u : Nat → Nat → Int32 => ([(x, .inr (5, [.ref ca, .ref z, .ref nn])), (q, .inr (0, [.int (nI c), .ref h, .ref g, .ref e, .int (nI (jc_pn C)), .int (nI (jc_bk C)), .int (nI (jc_rv C)), .int (nI (jc_on C))])), (e, .inl (cI, 8, .inl X.1)), (nn, .inr (1, [.ref gg, .int (nI ((jt_se c C L0).2))])), (gg, .inl (cG, 30, .inr (.inr (.inr (.inr (jx_o ad))))))] : va_W) ++ jx_r ad cI u)) (va_A (([(x, .inr (5, [.ref ca, .ref z, .ref nn])), (q, .inr (0, [.int (nI c), .ref h, .ref g, .ref e, .int (nI (jc_pn C)), .int (nI (jc_bk C)), .int (nI (jc_rv C)), .int (nI (jc_on C))])), (e, .inl (cI, 8, .inl X.1)), (nn, .inr (1, [.ref gg, .int (nI L0.2)])), (gg, .inl (cG, 30, .inr (.inr (.inr (.inr (jx_o ad))))))] : va_W) ++ jx_r ad cI M) sz)) 0 0 (va_A (([(x, .inr (5, [.ref ca, .ref z, .ref nn])), (q, .inr (0, [.int (nI c), .ref h, .ref g, .ref e, .int (nI (jc_pn C)), .int (nI (jc_bk C)), .int (nI (jc_rv C)), .int (nI (jc_on C))])), (e, .inl (cI, 8, .inl X.1)), (nn, .inr (1, [.ref gg, .int (nI L0.2)])), (gg, .inl (cG, 30, .inr (.inr (.inr (.inr (jx_o ad))))))] : va_W) ++ jx_r ad cI M) sz) := by
  refine Met.ofW (cc := c_J_sendEdit) (maxL := 2) (ret := none) (by decide) rfl ?_
  intro pg0 en0 s m args below meth cd0 s₁ B hml hv
  obtain ⟨rfl, hsz, hP, hK, hD0⟩ := hv
  have hx := B.exec
  have hb := B.bytes
  have hr := B.returns
  have hts := atoms_spec (ws := w_J_sendEdit) B.pre
  have ht : ∀ w ∈ jw_tbl, w.before _ s = true := fun w h => hts w (List.mem_cons_of_mem _ h)
  have hown : s.vm.findClass jn_J = some m.cls := findClass_of_methodNamed B.named
  have hlocks := B.notSynchronized
  subst hsz
  have hD := hD0.self (sz := s.heap.size)
  generalize hAe : va_A (([(x, .inr (5, [.ref ca, .ref z, .ref nn])), (q, .inr (0, [.int (nI c), .ref h, .ref g, .ref e, .int (nI (jc_pn C)), .int (nI (jc_bk C)), .int (nI (jc_rv C)), .int (nI (jc_on C))])), (e, .inl (cI, 8, .inl X.1)), (nn, .inr (1, [.ref gg, .int (nI L0.2)])), (gg, .inl (cG, 30, .inr (.inr (.inr (.inr (jx_o ad))))))] : va_W) ++ jx_r ad cI M) s.heap.size = A at hD ⊢
  have hA : ∀ q : Nat, s.heap.size ≤ q → A q := fun q h => by rw [← hAe]; exact Or.inr h
  have hS : va_S A s.heap s.heap [] := va_S.rf
  have hP : va_P D jw_cl (([(x, .inr (5, [.ref ca, .ref z, .ref nn])), (q, .inr (0, [.int (nI c), .ref h, .ref g, .ref e, .int (nI (jc_pn C)), .int (nI (jc_bk C)), .int (nI (jc_rv C)), .int (nI (jc_on C))])), (e, .inl (cI, 8, .inl X.1)), (nn, .inr (1, [.ref gg, .int (nI L0.2)])), (gg, .inl (cG, 30, .inr (.inr (.inr (.inr (jx_o ad))))))] : va_W) ++ jx_r ad cI M) s.heap := hP
  have hl := lv_entry ([.ref x, .ref q]) (n := 2) (Nat.le_of_ble_eq_true rfl)
  rw [lg_entry_eq]
  generalize (lg_sl ([.ref x, .ref q]) ++ List.replicate (2 - (lg_sl ([.ref x, .ref q])).length) Slot.unset).toArray = ls at hl ⊢
  have hl : lv_has ls 2 [(0, .ref x), (1, .ref q)] := hl
  refine lv_aload_n hx hb d_J_sendEdit_0 rfl (lv_at hl 1 rfl) ?_
  refine jw_rV (As := []) (rest := []) hx hb hml hown ht (m_C_isOn l D q e h g _ _ _ _ _ hon) (o_C_isOn) k_J_179 rfl rfl ⟨Nat.le_of_ble_eq_true rfl, Nat.le_of_ble_eq_true rfl⟩ (jw_subP hP [1] rfl) (hK.sub [] rfl) (va_recv (q0 := 1) (ci := 0) hK hP rfl rfl) rfl hl.1 rfl (Nat.le_of_ble_eq_true rfl) d_J_sendEdit_1 ⟨Nat.zero_le _, Nat.zero_le _⟩ ?_
  refine lv_if_eq (tgt := 31) hx hb d_J_sendEdit_4 (by decide) (fun h4 => ?_) (fun h4 => ?_)
  · skip
    have h4 := jw_eq0 (by omega) h4
    have hP := hP.part (cx := [(x, .inr (5, [.ref ca, .ref z, .ref nn])), (q, .inr (0, [.int (nI c), .ref h, .ref g, .ref e, .int (nI (jc_pn C)), .int (nI (jc_bk C)), .int (nI (jc_rv C)), .int (nI (jc_on C))])), (e, .inl (cI, 8, .inl X.1)), (nn, .inr (1, [.ref gg, .int (nI L0.2)])), (gg, .inl (cG, 30, .inr (.inr (.inr (.inr (jx_o ad))))))]) [0, 1, 2, 3, 4] rfl
    have hD := hD.part (cx := [(x, .inr (5, [.ref ca, .ref z, .ref nn])), (q, .inr (0, [.int (nI c), .ref h, .ref g, .ref e, .int (nI (jc_pn C)), .int (nI (jc_bk C)), .int (nI (jc_rv C)), .int (nI (jc_on C))])), (e, .inl (cI, 8, .inl X.1)), (nn, .inr (1, [.ref gg, .int (nI L0.2)])), (gg, .inl (cG, 30, .inr (.inr (.inr (.inr (jx_o ad))))))]) [0, 1, 2, 3, 4] (by decide) rfl
    have eL : L0 = jt_se c C L0 := by unfold jt_se; first | rw [if_pos h4] | rw [if_neg h4]
    have hR9 := hM
    rw [eL] at hR9
    rw [eL] at hP hD
    exact W.vret hx hb hr (fun t9 ht9 hW9 => ⟨⟨M, rfl, hR9, by rw [ht9]; exact hP, hD⟩, hS.F ht9⟩) hS.2.2 d_J_sendEdit_31
  · skip
    have h4 := jw_ne0 (by omega) h4
    refine lv_aload_n hx hb d_J_sendEdit_7 rfl (lv_at hl 0 rfl) ?_
    refine va_get (D := D) (ci := 5) (v := .ref nn) (C := jn_J) (T := jf_J) (N := 3) hx hb ht ji_J hown hK hP 0 rfl rfl 2 (by decide) (ht _ k_J_28) (fun _ h9 => h9) rfl d_J_sendEdit_8 ?_
    refine lv_iconst (v := nI 0) hx hb d_J_sendEdit_11 (by decide) ?_
    refine lv_aload_n hx hb d_J_sendEdit_12 rfl (lv_at hl 1 rfl) ?_
    refine va_get (D := D) (ci := 0) (v := .int (nI c)) (C := jn_C) (T := jf_C) (N := 8) hx hb ht ji_C hown hK hP 1 rfl rfl 0 (by decide) (ht _ k_J_206) (fun _ h9 => h9) rfl d_J_sendEdit_13 ?_
    refine lv_aload_n hx hb d_J_sendEdit_16 rfl (lv_at hl 1 rfl) ?_
    refine jw_rV (As := []) (rest := [.int (nI c), .int (nI 0), .ref nn]) hx hb hml hown ht (m_C_known l D q e h g _ _ _ _ _) (o_C_known) k_J_113 rfl rfl ⟨Nat.le_of_ble_eq_true rfl, Nat.le_of_ble_eq_true rfl⟩ (jw_subP hP [1] rfl) (hK.sub [] rfl) (va_recv (q0 := 1) (ci := 0) hK hP rfl rfl) rfl hl.1 rfl (Nat.le_of_ble_eq_true rfl) d_J_sendEdit_17 ⟨Nat.zero_le _, Nat.zero_le _⟩ ?_
    refine lv_aload_n hx hb d_J_sendEdit_20 rfl (lv_at hl 1 rfl) ?_
    refine jw_rV (As := []) (rest := [.int (nI (jc_rv C)), .int (nI c), .int (nI 0), .ref nn]) hx hb hml hown ht (m_C_firstPending l D q e h g _ _ _ _ _ cI _) (o_C_firstPending) k_J_210 rfl rfl ⟨Nat.le_of_ble_eq_true rfl, Nat.le_of_ble_eq_true rfl⟩ (jw_subP hP [1, 2] rfl) (hK.sub [0] rfl) (va_recv (q0 := 1) (ci := 0) hK hP rfl rfl) rfl hl.1 rfl (Nat.le_of_ble_eq_true rfl) d_J_sendEdit_21 ⟨Nat.zero_le _, Nat.zero_le _⟩ ?_
    rw [hX1]
    refine lv_aload_n hx hb d_J_sendEdit_24 rfl (lv_at hl 1 rfl) ?_
    refine jw_rV (As := []) (rest := [.int (nI (jt_po (jc_pe C 0))), .int (nI (jc_rv C)), .int (nI c), .int (nI 0), .ref nn]) hx hb hml hown ht (m_C_firstNumber l D q e h g _ _ _ _ _) (o_C_firstNumber) k_J_213 rfl rfl ⟨Nat.le_of_ble_eq_true rfl, Nat.le_of_ble_eq_true rfl⟩ (jw_subP hP [1] rfl) (hK.sub [] rfl) (va_recv (q0 := 1) (ci := 0) hK hP rfl rfl) rfl hl.1 rfl (Nat.le_of_ble_eq_true rfl) d_J_sendEdit_25 ⟨Nat.zero_le _, Nat.zero_le _⟩ ?_
    refine jw_jvP (rx := fun u1 : Nat → Nat → Int32 => [(nn, .inr (1, [.ref gg, .int (nI ((jt_sd L0 (0, c, jc_rv C, jc_bk C, jc_pe C 0, 0)).2))])), (gg, .inl (cG, 30, .inr (.inr (.inr (.inr (jx_o ad))))))]) (p1 := fun u1 : Nat → Nat → Int32 => jx_r ad cI u1) (X := [(x, .inr (5, [.ref ca, .ref z, .ref nn])), (q, .inr (0, [.int (nI c), .ref h, .ref g, .ref e, .int (nI (jc_pn C)), .int (nI (jc_bk C)), .int (nI (jc_rv C)), .int (nI (jc_on C))])), (e, .inl (cI, 8, .inl X.1)), (nn, .inr (1, [.ref gg, .int (nI L0.2)])), (gg, .inl (cG, 30, .inr (.inr (.inr (.inr (jx_o ad))))))]) (cx := [(nn, .inr (1, [.ref gg, .int (nI L0.2)])), (gg, .inl (cG, 30, .inr (.inr (.inr (.inr (jx_o ad))))))]) (wr := [(x, .inr (5, [.ref ca, .ref z, .ref nn])), (q, .inr (0, [.int (nI c), .ref h, .ref g, .ref e, .int (nI (jc_pn C)), .int (nI (jc_bk C)), .int (nI (jc_rv C)), .int (nI (jc_on C))])), (e, .inl (cI, 8, .inl X.1))]) (pl := jx_r ad cI M) (jw_uV (As := [.int (nI 0), .int (nI c), .int (nI (jc_rv C)), .int (nI (jt_po (jc_pe C 0))), .int (nI (jc_bk C))]) (rest := []) hx hb hml hown ht (m_L_send l D _ nn gg ad cI cG M L0 hM hL30 0 c (jc_rv C) (jc_bk C) (jc_pe C 0)) (o_L_send) k_J_216 rfl rfl ⟨Nat.le_of_ble_eq_true rfl, Nat.le_of_ble_eq_true rfl⟩ (hP.part [3, 4] rfl) (hK.sub [0, 2] rfl) (hD.part [3, 4] (by decide) rfl) (va_recv (q0 := 3) (ci := 1) hK hP rfl rfl) rfl hl.1 rfl (Nat.le_of_ble_eq_true rfl) d_J_sendEdit_28 ⟨Nat.zero_le _, Nat.zero_le _⟩) hP hD hS hA [3, 4] [0, 1, 2] rfl rfl (by decide) (by decide) (fun u1 H locs hu1 hP hD hS => ?_)
    have hP : va_P D jw_cl (([(x, .inr (5, [.ref ca, .ref z, .ref nn])), (q, .inr (0, [.int (nI c), .ref h, .ref g, .ref e, .int (nI (jc_pn C)), .int (nI (jc_bk C)), .int (nI (jc_rv C)), .int (nI (jc_on C))])), (e, .inl (cI, 8, .inl X.1)), (nn, .inr (1, [.ref gg, .int (nI ((jt_sd L0 (0, c, jc_rv C, jc_bk C, jc_pe C 0, 0)).2))])), (gg, .inl (cG, 30, .inr (.inr (.inr (.inr (jx_o ad))))))] : va_W) ++ jx_r ad cI u1) H := hP
    have hD : va_D A (([(x, .inr (5, [.ref ca, .ref z, .ref nn])), (q, .inr (0, [.int (nI c), .ref h, .ref g, .ref e, .int (nI (jc_pn C)), .int (nI (jc_bk C)), .int (nI (jc_rv C)), .int (nI (jc_on C))])), (e, .inl (cI, 8, .inl X.1)), (nn, .inr (1, [.ref gg, .int (nI ((jt_sd L0 (0, c, jc_rv C, jc_bk C, jc_pe C 0, 0)).2))])), (gg, .inl (cG, 30, .inr (.inr (.inr (.inr (jx_o ad))))))] : va_W) ++ jx_r ad cI u1) := hD
    have hP := hP.part (cx := [(x, .inr (5, [.ref ca, .ref z, .ref nn])), (q, .inr (0, [.int (nI c), .ref h, .ref g, .ref e, .int (nI (jc_pn C)), .int (nI (jc_bk C)), .int (nI (jc_rv C)), .int (nI (jc_on C))])), (e, .inl (cI, 8, .inl X.1)), (nn, .inr (1, [.ref gg, .int (nI ((jt_sd L0 (0, c, jc_rv C, jc_bk C, jc_pe C 0, 0)).2))])), (gg, .inl (cG, 30, .inr (.inr (.inr (.inr (jx_o ad))))))]) [0, 1, 2, 3, 4] rfl
    have hD := hD.part (cx := [(x, .inr (5, [.ref ca, .ref z, .ref nn])), (q, .inr (0, [.int (nI c), .ref h, .ref g, .ref e, .int (nI (jc_pn C)), .int (nI (jc_bk C)), .int (nI (jc_rv C)), .int (nI (jc_on C))])), (e, .inl (cI, 8, .inl X.1)), (nn, .inr (1, [.ref gg, .int (nI ((jt_sd L0 (0, c, jc_rv C, jc_bk C, jc_pe C 0, 0)).2))])), (gg, .inl (cG, 30, .inr (.inr (.inr (.inr (jx_o ad))))))]) [0, 1, 2, 3, 4] (by decide) rfl
    have eL : jt_sd L0 (0, c, jc_rv C, jc_bk C, jc_pe C 0, 0) = jt_se c C L0 := by unfold jt_se; first | rw [if_pos h4] | rw [if_neg h4]
    have hR9 := hu1
    rw [eL] at hR9
    rw [eL] at hP hD
    exact W.vret hx hb hr (fun t9 ht9 hW9 => ⟨⟨u1, rfl, hR9, by rw [ht9]; exact hP, hD⟩, hS.F ht9⟩) hS.2.2 d_J_sendEdit_31

set_option maxHeartbeats 4000000 in
set_option maxRecDepth 100000 in
theorem m_J_sendAsk (l : Launch) (D : va_G) (sz : Nat) (x ca z nn gg : Nat) (ad : Nat → Nat) (cI cZ cG cC : ClassId) (M : Nat → Nat → Int32) (L0 : jt_L) (hM : jt_rm M L0) (hL30 : L0.2 ≤ 30) (q e h a g b0 b1 b2 : Nat) (c : Nat) (C : jt_C) (X : jt_X) (hon : jc_on C ≤ 1) (hc3 : c < 3) : Met l y_J_sendAsk w_J_sendAsk ({ frames := 2, cells := 0, slots := 0, locals := 46 }) (jw_C [.ref x, .ref q] D jw_cl (([(x, .inr (5, [.ref ca, .ref z, .ref nn])), (q, .inr (0, [.int (nI c), .ref h, .ref g, .ref e, .int (nI (jc_pn C)), .int (nI (jc_bk C)), .int (nI (jc_rv C)), .int (nI (jc_on C))])), (nn, .inr (1, [.ref gg, .int (nI L0.2)])), (gg, .inl (cG, 30, .inr (.inr (.inr (.inr (jx_o ad))))))] : va_W) ++ jx_r ad cI M) [(cI, .int), (cZ, .boolean), (cG, .array .int), (cC, .object "JointText$Client")] sz) (va_Qv (fun u : Nat → Nat → Int32 => jt_rm u (jt_sk c C L0)) (jw_B D jw_cl (va_A (([(x, .inr (5, [.ref ca, .ref z, .ref nn])), (q, .inr (0, [.int (nI c), .ref h, .ref g, .ref e, .int (nI (jc_pn C)), .int (nI (jc_bk C)), .int (nI (jc_rv C)), .int (nI (jc_on C))])), (nn, .inr (1, [.ref gg, .int (nI L0.2)])), (gg, .inl (cG, 30, .inr (.inr (.inr (.inr (jx_o ad))))))] : va_W) ++ jx_r ad cI M) sz) (fun u : Nat → Nat → Int32 => ([(x, .inr (5, [.ref ca, .ref z, .ref nn])), (q, .inr (0, [.int (nI c), .ref h, .ref g, .ref e, .int (nI (jc_pn C)), .int (nI (jc_bk C)), .int (nI (jc_rv C)), .int (nI (jc_on C))])), (nn, .inr (1, [.ref gg, .int (nI ((jt_sk c C L0).2))])), (gg, .inl (cG, 30, .inr (.inr (.inr (.inr (jx_o ad))))))] : va_W) ++ jx_r ad cI u)) (va_A (([(x, .inr (5, [.ref ca, .ref z, .ref nn])), (q, .inr (0, [.int (nI c), .ref h, .ref g, .ref e, .int (nI (jc_pn C)), .int (nI (jc_bk C)), .int (nI (jc_rv C)), .int (nI (jc_on C))])), (nn, .inr (1, [.ref gg, .int (nI L0.2)])), (gg, .inl (cG, 30, .inr (.inr (.inr (.inr (jx_o ad))))))] : va_W) ++ jx_r ad cI M) sz)) 0 0 (va_A (([(x, .inr (5, [.ref ca, .ref z, .ref nn])), (q, .inr (0, [.int (nI c), .ref h, .ref g, .ref e, .int (nI (jc_pn C)), .int (nI (jc_bk C)), .int (nI (jc_rv C)), .int (nI (jc_on C))])), (nn, .inr (1, [.ref gg, .int (nI L0.2)])), (gg, .inl (cG, 30, .inr (.inr (.inr (.inr (jx_o ad))))))] : va_W) ++ jx_r ad cI M) sz) := by
  refine Met.ofW (cc := c_J_sendAsk) (maxL := 2) (ret := none) (by decide) rfl ?_
  intro pg0 en0 s m args below meth cd0 s₁ B hml hv
  obtain ⟨rfl, hsz, hP, hK, hD0⟩ := hv
  have hx := B.exec
  have hb := B.bytes
  have hr := B.returns
  have hts := atoms_spec (ws := w_J_sendAsk) B.pre
  have ht : ∀ w ∈ jw_tbl, w.before _ s = true := fun w h => hts w (List.mem_cons_of_mem _ h)
  have hown : s.vm.findClass jn_J = some m.cls := findClass_of_methodNamed B.named
  have hlocks := B.notSynchronized
  subst hsz
  have hD := hD0.self (sz := s.heap.size)
  generalize hAe : va_A (([(x, .inr (5, [.ref ca, .ref z, .ref nn])), (q, .inr (0, [.int (nI c), .ref h, .ref g, .ref e, .int (nI (jc_pn C)), .int (nI (jc_bk C)), .int (nI (jc_rv C)), .int (nI (jc_on C))])), (nn, .inr (1, [.ref gg, .int (nI L0.2)])), (gg, .inl (cG, 30, .inr (.inr (.inr (.inr (jx_o ad))))))] : va_W) ++ jx_r ad cI M) s.heap.size = A at hD ⊢
  have hA : ∀ q : Nat, s.heap.size ≤ q → A q := fun q h => by rw [← hAe]; exact Or.inr h
  have hS : va_S A s.heap s.heap [] := va_S.rf
  have hP : va_P D jw_cl (([(x, .inr (5, [.ref ca, .ref z, .ref nn])), (q, .inr (0, [.int (nI c), .ref h, .ref g, .ref e, .int (nI (jc_pn C)), .int (nI (jc_bk C)), .int (nI (jc_rv C)), .int (nI (jc_on C))])), (nn, .inr (1, [.ref gg, .int (nI L0.2)])), (gg, .inl (cG, 30, .inr (.inr (.inr (.inr (jx_o ad))))))] : va_W) ++ jx_r ad cI M) s.heap := hP
  have hl := lv_entry ([.ref x, .ref q]) (n := 2) (Nat.le_of_ble_eq_true rfl)
  rw [lg_entry_eq]
  generalize (lg_sl ([.ref x, .ref q]) ++ List.replicate (2 - (lg_sl ([.ref x, .ref q])).length) Slot.unset).toArray = ls at hl ⊢
  have hl : lv_has ls 2 [(0, .ref x), (1, .ref q)] := hl
  refine lv_aload_n hx hb d_J_sendAsk_0 rfl (lv_at hl 1 rfl) ?_
  refine jw_rV (As := []) (rest := []) hx hb hml hown ht (m_C_isOn l D q e h g _ _ _ _ _ hon) (o_C_isOn) k_J_179 rfl rfl ⟨Nat.le_of_ble_eq_true rfl, Nat.le_of_ble_eq_true rfl⟩ (jw_subP hP [1] rfl) (hK.sub [] rfl) (va_recv (q0 := 1) (ci := 0) hK hP rfl rfl) rfl hl.1 rfl (Nat.le_of_ble_eq_true rfl) d_J_sendAsk_1 ⟨Nat.zero_le _, Nat.zero_le _⟩ ?_
  refine lv_if_eq (tgt := 31) hx hb d_J_sendAsk_4 (by decide) (fun h4 => ?_) (fun h4 => ?_)
  · skip
    have h4 := jw_eq0 (by omega) h4
    have hP := hP.part (cx := [(x, .inr (5, [.ref ca, .ref z, .ref nn])), (q, .inr (0, [.int (nI c), .ref h, .ref g, .ref e, .int (nI (jc_pn C)), .int (nI (jc_bk C)), .int (nI (jc_rv C)), .int (nI (jc_on C))])), (nn, .inr (1, [.ref gg, .int (nI L0.2)])), (gg, .inl (cG, 30, .inr (.inr (.inr (.inr (jx_o ad))))))]) [0, 1, 2, 3] rfl
    have hD := hD.part (cx := [(x, .inr (5, [.ref ca, .ref z, .ref nn])), (q, .inr (0, [.int (nI c), .ref h, .ref g, .ref e, .int (nI (jc_pn C)), .int (nI (jc_bk C)), .int (nI (jc_rv C)), .int (nI (jc_on C))])), (nn, .inr (1, [.ref gg, .int (nI L0.2)])), (gg, .inl (cG, 30, .inr (.inr (.inr (.inr (jx_o ad))))))]) [0, 1, 2, 3] (by decide) rfl
    have eL : L0 = jt_sk c C L0 := by unfold jt_sk; first | rw [if_pos h4] | rw [if_neg h4]
    have hR9 := hM
    rw [eL] at hR9
    rw [eL] at hP hD
    exact W.vret hx hb hr (fun t9 ht9 hW9 => ⟨⟨M, rfl, hR9, by rw [ht9]; exact hP, hD⟩, hS.F ht9⟩) hS.2.2 d_J_sendAsk_31
  · skip
    have h4 := jw_ne0 (by omega) h4
    refine lv_aload_n hx hb d_J_sendAsk_7 rfl (lv_at hl 0 rfl) ?_
    refine va_get (D := D) (ci := 5) (v := .ref nn) (C := jn_J) (T := jf_J) (N := 3) hx hb ht ji_J hown hK hP 0 rfl rfl 2 (by decide) (ht _ k_J_28) (fun _ h9 => h9) rfl d_J_sendAsk_8 ?_
    refine lv_iconst (v := nI 1) hx hb d_J_sendAsk_11 (by decide) ?_
    refine lv_aload_n hx hb d_J_sendAsk_12 rfl (lv_at hl 1 rfl) ?_
    refine va_get (D := D) (ci := 0) (v := .int (nI c)) (C := jn_C) (T := jf_C) (N := 8) hx hb ht ji_C hown hK hP 1 rfl rfl 0 (by decide) (ht _ k_J_206) (fun _ h9 => h9) rfl d_J_sendAsk_13 ?_
    refine lv_aload_n hx hb d_J_sendAsk_16 rfl (lv_at hl 1 rfl) ?_
    refine jw_rV (As := []) (rest := [.int (nI c), .int (nI 1), .ref nn]) hx hb hml hown ht (m_C_known l D q e h g _ _ _ _ _) (o_C_known) k_J_113 rfl rfl ⟨Nat.le_of_ble_eq_true rfl, Nat.le_of_ble_eq_true rfl⟩ (jw_subP hP [1] rfl) (hK.sub [] rfl) (va_recv (q0 := 1) (ci := 0) hK hP rfl rfl) rfl hl.1 rfl (Nat.le_of_ble_eq_true rfl) d_J_sendAsk_17 ⟨Nat.zero_le _, Nat.zero_le _⟩ ?_
    refine lv_aload_n hx hb d_J_sendAsk_20 rfl (lv_at hl 1 rfl) ?_
    refine va_get (D := D) (ci := 0) (v := .int (nI c)) (C := jn_C) (T := jf_C) (N := 8) hx hb ht ji_C hown hK hP 1 rfl rfl 0 (by decide) (ht _ k_J_206) (fun _ h9 => h9) rfl d_J_sendAsk_21 ?_
    refine jw_rS (As := [.int (nI c)]) (rest := [.int (nI (jc_rv C)), .int (nI c), .int (nI 1), .ref nn]) hx hb hml hown ht (m_O_nothingOf l D c (by omega)) (o_O_nothingOf) k_J_220 rfl rfl ⟨Nat.le_of_ble_eq_true rfl, Nat.le_of_ble_eq_true rfl⟩ (jw_subP hP [] rfl) (hK.sub [] rfl) rfl hl.1 rfl (Nat.le_of_ble_eq_true rfl) d_J_sendAsk_24 ⟨Nat.zero_le _, Nat.zero_le _⟩ ?_
    refine lv_iconst (v := nI 0) hx hb d_J_sendAsk_27 (by decide) ?_
    refine jw_jvP (rx := fun u1 : Nat → Nat → Int32 => [(nn, .inr (1, [.ref gg, .int (nI ((jt_sd L0 (1, c, jc_rv C, 0, (0, 0, 0, c), 0)).2))])), (gg, .inl (cG, 30, .inr (.inr (.inr (.inr (jx_o ad))))))]) (p1 := fun u1 : Nat → Nat → Int32 => jx_r ad cI u1) (X := [(x, .inr (5, [.ref ca, .ref z, .ref nn])), (q, .inr (0, [.int (nI c), .ref h, .ref g, .ref e, .int (nI (jc_pn C)), .int (nI (jc_bk C)), .int (nI (jc_rv C)), .int (nI (jc_on C))])), (nn, .inr (1, [.ref gg, .int (nI L0.2)])), (gg, .inl (cG, 30, .inr (.inr (.inr (.inr (jx_o ad))))))]) (cx := [(nn, .inr (1, [.ref gg, .int (nI L0.2)])), (gg, .inl (cG, 30, .inr (.inr (.inr (.inr (jx_o ad))))))]) (wr := [(x, .inr (5, [.ref ca, .ref z, .ref nn])), (q, .inr (0, [.int (nI c), .ref h, .ref g, .ref e, .int (nI (jc_pn C)), .int (nI (jc_bk C)), .int (nI (jc_rv C)), .int (nI (jc_on C))]))]) (pl := jx_r ad cI M) (jw_uV (As := [.int (nI 1), .int (nI c), .int (nI (jc_rv C)), .int (nI (jt_po (0, 0, 0, c))), .int (nI 0)]) (rest := []) hx hb hml hown ht (m_L_send l D _ nn gg ad cI cG M L0 hM hL30 1 c (jc_rv C) 0 (0, 0, 0, c)) (o_L_send) k_J_216 rfl rfl ⟨Nat.le_of_ble_eq_true rfl, Nat.le_of_ble_eq_true rfl⟩ (hP.part [2, 3] rfl) (hK.sub [0, 2] rfl) (hD.part [2, 3] (by decide) rfl) (va_recv (q0 := 2) (ci := 1) hK hP rfl rfl) rfl hl.1 rfl (Nat.le_of_ble_eq_true rfl) d_J_sendAsk_28 ⟨Nat.zero_le _, Nat.zero_le _⟩) hP hD hS hA [2, 3] [0, 1] rfl rfl (by decide) (by decide) (fun u1 H locs hu1 hP hD hS => ?_)
    have hP : va_P D jw_cl (([(x, .inr (5, [.ref ca, .ref z, .ref nn])), (q, .inr (0, [.int (nI c), .ref h, .ref g, .ref e, .int (nI (jc_pn C)), .int (nI (jc_bk C)), .int (nI (jc_rv C)), .int (nI (jc_on C))])), (nn, .inr (1, [.ref gg, .int (nI ((jt_sd L0 (1, c, jc_rv C, 0, (0, 0, 0, c), 0)).2))])), (gg, .inl (cG, 30, .inr (.inr (.inr (.inr (jx_o ad))))))] : va_W) ++ jx_r ad cI u1) H := hP
    have hD : va_D A (([(x, .inr (5, [.ref ca, .ref z, .ref nn])), (q, .inr (0, [.int (nI c), .ref h, .ref g, .ref e, .int (nI (jc_pn C)), .int (nI (jc_bk C)), .int (nI (jc_rv C)), .int (nI (jc_on C))])), (nn, .inr (1, [.ref gg, .int (nI ((jt_sd L0 (1, c, jc_rv C, 0, (0, 0, 0, c), 0)).2))])), (gg, .inl (cG, 30, .inr (.inr (.inr (.inr (jx_o ad))))))] : va_W) ++ jx_r ad cI u1) := hD
    have hP := hP.part (cx := [(x, .inr (5, [.ref ca, .ref z, .ref nn])), (q, .inr (0, [.int (nI c), .ref h, .ref g, .ref e, .int (nI (jc_pn C)), .int (nI (jc_bk C)), .int (nI (jc_rv C)), .int (nI (jc_on C))])), (nn, .inr (1, [.ref gg, .int (nI ((jt_sd L0 (1, c, jc_rv C, 0, (0, 0, 0, c), 0)).2))])), (gg, .inl (cG, 30, .inr (.inr (.inr (.inr (jx_o ad))))))]) [0, 1, 2, 3] rfl
    have hD := hD.part (cx := [(x, .inr (5, [.ref ca, .ref z, .ref nn])), (q, .inr (0, [.int (nI c), .ref h, .ref g, .ref e, .int (nI (jc_pn C)), .int (nI (jc_bk C)), .int (nI (jc_rv C)), .int (nI (jc_on C))])), (nn, .inr (1, [.ref gg, .int (nI ((jt_sd L0 (1, c, jc_rv C, 0, (0, 0, 0, c), 0)).2))])), (gg, .inl (cG, 30, .inr (.inr (.inr (.inr (jx_o ad))))))]) [0, 1, 2, 3] (by decide) rfl
    have eL : jt_sd L0 (1, c, jc_rv C, 0, (0, 0, 0, c), 0) = jt_sk c C L0 := by unfold jt_sk; first | rw [if_pos h4] | rw [if_neg h4]
    have hR9 := hu1
    rw [eL] at hR9
    rw [eL] at hP hD
    exact W.vret hx hb hr (fun t9 ht9 hW9 => ⟨⟨u1, rfl, hR9, by rw [ht9]; exact hP, hD⟩, hS.F ht9⟩) hS.2.2 d_J_sendAsk_31

set_option maxHeartbeats 4000000 in
set_option maxRecDepth 100000 in
theorem m_J_sendAgain (l : Launch) (D : va_G) (sz : Nat) (x ca z nn gg : Nat) (ad : Nat → Nat) (cI cZ cG cC : ClassId) (M : Nat → Nat → Int32) (L0 : jt_L) (hM : jt_rm M L0) (hL30 : L0.2 ≤ 30) (q e h a g b0 b1 b2 : Nat) (c : Nat) (C : jt_C) (X : jt_X) (hon : jc_on C ≤ 1) (hc3 : c < 3) (hpn : jc_pn C ≤ 8) (hX1 : jc_pn C ≠ 0 → X.1 0 = nI (jt_po (jc_pe C 0))) : Met l y_J_sendAgain w_J_sendAgain ({ frames := 3, cells := 0, slots := 0, locals := 67 }) (jw_C [.ref x, .ref q] D jw_cl (([(x, .inr (5, [.ref ca, .ref z, .ref nn])), (q, .inr (0, [.int (nI c), .ref h, .ref g, .ref e, .int (nI (jc_pn C)), .int (nI (jc_bk C)), .int (nI (jc_rv C)), .int (nI (jc_on C))])), (e, .inl (cI, 8, .inl X.1)), (nn, .inr (1, [.ref gg, .int (nI L0.2)])), (gg, .inl (cG, 30, .inr (.inr (.inr (.inr (jx_o ad))))))] : va_W) ++ jx_r ad cI M) [(cI, .int), (cZ, .boolean), (cG, .array .int), (cC, .object "JointText$Client")] sz) (va_Qv (fun u : Nat → Nat → Int32 => jt_rm u (jt_sa c C L0)) (jw_B D jw_cl (va_A (([(x, .inr (5, [.ref ca, .ref z, .ref nn])), (q, .inr (0, [.int (nI c), .ref h, .ref g, .ref e, .int (nI (jc_pn C)), .int (nI (jc_bk C)), .int (nI (jc_rv C)), .int (nI (jc_on C))])), (e, .inl (cI, 8, .inl X.1)), (nn, .inr (1, [.ref gg, .int (nI L0.2)])), (gg, .inl (cG, 30, .inr (.inr (.inr (.inr (jx_o ad))))))] : va_W) ++ jx_r ad cI M) sz) (fun u : Nat → Nat → Int32 => ([(x, .inr (5, [.ref ca, .ref z, .ref nn])), (q, .inr (0, [.int (nI c), .ref h, .ref g, .ref e, .int (nI (jc_pn C)), .int (nI (jc_bk C)), .int (nI (jc_rv C)), .int (nI (jc_on C))])), (e, .inl (cI, 8, .inl X.1)), (nn, .inr (1, [.ref gg, .int (nI ((jt_sa c C L0).2))])), (gg, .inl (cG, 30, .inr (.inr (.inr (.inr (jx_o ad))))))] : va_W) ++ jx_r ad cI u)) (va_A (([(x, .inr (5, [.ref ca, .ref z, .ref nn])), (q, .inr (0, [.int (nI c), .ref h, .ref g, .ref e, .int (nI (jc_pn C)), .int (nI (jc_bk C)), .int (nI (jc_rv C)), .int (nI (jc_on C))])), (e, .inl (cI, 8, .inl X.1)), (nn, .inr (1, [.ref gg, .int (nI L0.2)])), (gg, .inl (cG, 30, .inr (.inr (.inr (.inr (jx_o ad))))))] : va_W) ++ jx_r ad cI M) sz)) 0 0 (va_A (([(x, .inr (5, [.ref ca, .ref z, .ref nn])), (q, .inr (0, [.int (nI c), .ref h, .ref g, .ref e, .int (nI (jc_pn C)), .int (nI (jc_bk C)), .int (nI (jc_rv C)), .int (nI (jc_on C))])), (e, .inl (cI, 8, .inl X.1)), (nn, .inr (1, [.ref gg, .int (nI L0.2)])), (gg, .inl (cG, 30, .inr (.inr (.inr (.inr (jx_o ad))))))] : va_W) ++ jx_r ad cI M) sz) := by
  refine Met.ofW (cc := c_J_sendAgain) (maxL := 2) (ret := none) (by decide) rfl ?_
  intro pg0 en0 s m args below meth cd0 s₁ B hml hv
  obtain ⟨rfl, hsz, hP, hK, hD0⟩ := hv
  have hx := B.exec
  have hb := B.bytes
  have hr := B.returns
  have hts := atoms_spec (ws := w_J_sendAgain) B.pre
  have ht : ∀ w ∈ jw_tbl, w.before _ s = true := fun w h => hts w (List.mem_cons_of_mem _ h)
  have hown : s.vm.findClass jn_J = some m.cls := findClass_of_methodNamed B.named
  have hlocks := B.notSynchronized
  subst hsz
  have hD := hD0.self (sz := s.heap.size)
  generalize hAe : va_A (([(x, .inr (5, [.ref ca, .ref z, .ref nn])), (q, .inr (0, [.int (nI c), .ref h, .ref g, .ref e, .int (nI (jc_pn C)), .int (nI (jc_bk C)), .int (nI (jc_rv C)), .int (nI (jc_on C))])), (e, .inl (cI, 8, .inl X.1)), (nn, .inr (1, [.ref gg, .int (nI L0.2)])), (gg, .inl (cG, 30, .inr (.inr (.inr (.inr (jx_o ad))))))] : va_W) ++ jx_r ad cI M) s.heap.size = A at hD ⊢
  have hA : ∀ q : Nat, s.heap.size ≤ q → A q := fun q h => by rw [← hAe]; exact Or.inr h
  have hS : va_S A s.heap s.heap [] := va_S.rf
  have hP : va_P D jw_cl (([(x, .inr (5, [.ref ca, .ref z, .ref nn])), (q, .inr (0, [.int (nI c), .ref h, .ref g, .ref e, .int (nI (jc_pn C)), .int (nI (jc_bk C)), .int (nI (jc_rv C)), .int (nI (jc_on C))])), (e, .inl (cI, 8, .inl X.1)), (nn, .inr (1, [.ref gg, .int (nI L0.2)])), (gg, .inl (cG, 30, .inr (.inr (.inr (.inr (jx_o ad))))))] : va_W) ++ jx_r ad cI M) s.heap := hP
  have hl := lv_entry ([.ref x, .ref q]) (n := 2) (Nat.le_of_ble_eq_true rfl)
  rw [lg_entry_eq]
  generalize (lg_sl ([.ref x, .ref q]) ++ List.replicate (2 - (lg_sl ([.ref x, .ref q])).length) Slot.unset).toArray = ls at hl ⊢
  have hl : lv_has ls 2 [(0, .ref x), (1, .ref q)] := hl
  have hpn8 := hpn
  refine lv_aload_n hx hb d_J_sendAgain_0 rfl (lv_at hl 1 rfl) ?_
  refine jw_rV (As := []) (rest := []) hx hb hml hown ht (m_C_pendingCount l D q e h g _ _ _ _ _) (o_C_pendingCount) k_J_69 rfl rfl ⟨Nat.le_of_ble_eq_true rfl, Nat.le_of_ble_eq_true rfl⟩ (jw_subP hP [1] rfl) (hK.sub [] rfl) (va_recv (q0 := 1) (ci := 0) hK hP rfl rfl) rfl hl.1 rfl (Nat.le_of_ble_eq_true rfl) d_J_sendAgain_1 ⟨Nat.zero_le _, Nat.zero_le _⟩ ?_
  refine lv_if_le (tgt := 15) hx hb d_J_sendAgain_4 (by decide) (fun h4 => ?_) (fun h4 => ?_)
  · skip
    have h4 := jw_le0 (by omega) h4
    refine lv_aload_n hx hb d_J_sendAgain_15 rfl (lv_at hl 0 rfl) ?_
    refine lv_aload_n hx hb d_J_sendAgain_16 rfl (lv_at hl 1 rfl) ?_
    refine jw_jvP (rx := fun u1 : Nat → Nat → Int32 => [(x, .inr (5, [.ref ca, .ref z, .ref nn])), (q, .inr (0, [.int (nI c), .ref h, .ref g, .ref e, .int (nI (jc_pn C)), .int (nI (jc_bk C)), .int (nI (jc_rv C)), .int (nI (jc_on C))])), (nn, .inr (1, [.ref gg, .int (nI ((jt_sk c C L0).2))])), (gg, .inl (cG, 30, .inr (.inr (.inr (.inr (jx_o ad))))))]) (p1 := fun u1 : Nat → Nat → Int32 => jx_r ad cI u1) (X := [(x, .inr (5, [.ref ca, .ref z, .ref nn])), (q, .inr (0, [.int (nI c), .ref h, .ref g, .ref e, .int (nI (jc_pn C)), .int (nI (jc_bk C)), .int (nI (jc_rv C)), .int (nI (jc_on C))])), (e, .inl (cI, 8, .inl X.1)), (nn, .inr (1, [.ref gg, .int (nI L0.2)])), (gg, .inl (cG, 30, .inr (.inr (.inr (.inr (jx_o ad))))))]) (cx := [(x, .inr (5, [.ref ca, .ref z, .ref nn])), (q, .inr (0, [.int (nI c), .ref h, .ref g, .ref e, .int (nI (jc_pn C)), .int (nI (jc_bk C)), .int (nI (jc_rv C)), .int (nI (jc_on C))])), (nn, .inr (1, [.ref gg, .int (nI L0.2)])), (gg, .inl (cG, 30, .inr (.inr (.inr (.inr (jx_o ad))))))]) (wr := [(e, .inl (cI, 8, .inl X.1))]) (pl := jx_r ad cI M) (jw_uV (As := [.ref q]) (rest := []) hx hb hml hown ht (m_J_sendAsk l D _ x ca z nn gg ad cI cZ cG cC M L0 hM hL30 q e h a g b0 b1 b2 c C X hon hc3) (o_J_sendAsk) k_J_203 rfl rfl ⟨Nat.le_of_ble_eq_true rfl, Nat.le_of_ble_eq_true rfl⟩ (hP.part [0, 1, 3, 4] rfl) (hK.sub [0, 1, 2, 3] rfl) (hD.part [0, 1, 3, 4] (by decide) rfl) (va_recv (q0 := 0) (ci := 5) hK hP rfl rfl) rfl hl.1 rfl (Nat.le_of_ble_eq_true rfl) d_J_sendAgain_17 ⟨Nat.zero_le _, Nat.zero_le _⟩) hP hD hS hA [0, 1, 3, 4] [2] rfl rfl (by decide) (by decide) (fun u1 H locs hu1 hP hD hS => ?_)
    have hP : va_P D jw_cl (([(e, .inl (cI, 8, .inl X.1)), (x, .inr (5, [.ref ca, .ref z, .ref nn])), (q, .inr (0, [.int (nI c), .ref h, .ref g, .ref e, .int (nI (jc_pn C)), .int (nI (jc_bk C)), .int (nI (jc_rv C)), .int (nI (jc_on C))])), (nn, .inr (1, [.ref gg, .int (nI ((jt_sk c C L0).2))])), (gg, .inl (cG, 30, .inr (.inr (.inr (.inr (jx_o ad))))))] : va_W) ++ jx_r ad cI u1) H := hP
    have hD : va_D A (([(e, .inl (cI, 8, .inl X.1)), (x, .inr (5, [.ref ca, .ref z, .ref nn])), (q, .inr (0, [.int (nI c), .ref h, .ref g, .ref e, .int (nI (jc_pn C)), .int (nI (jc_bk C)), .int (nI (jc_rv C)), .int (nI (jc_on C))])), (nn, .inr (1, [.ref gg, .int (nI ((jt_sk c C L0).2))])), (gg, .inl (cG, 30, .inr (.inr (.inr (.inr (jx_o ad))))))] : va_W) ++ jx_r ad cI u1) := hD
    have hP := hP.part (cx := [(x, .inr (5, [.ref ca, .ref z, .ref nn])), (q, .inr (0, [.int (nI c), .ref h, .ref g, .ref e, .int (nI (jc_pn C)), .int (nI (jc_bk C)), .int (nI (jc_rv C)), .int (nI (jc_on C))])), (e, .inl (cI, 8, .inl X.1)), (nn, .inr (1, [.ref gg, .int (nI ((jt_sk c C L0).2))])), (gg, .inl (cG, 30, .inr (.inr (.inr (.inr (jx_o ad))))))]) [1, 2, 0, 3, 4] rfl
    have hD := hD.part (cx := [(x, .inr (5, [.ref ca, .ref z, .ref nn])), (q, .inr (0, [.int (nI c), .ref h, .ref g, .ref e, .int (nI (jc_pn C)), .int (nI (jc_bk C)), .int (nI (jc_rv C)), .int (nI (jc_on C))])), (e, .inl (cI, 8, .inl X.1)), (nn, .inr (1, [.ref gg, .int (nI ((jt_sk c C L0).2))])), (gg, .inl (cG, 30, .inr (.inr (.inr (.inr (jx_o ad))))))]) [1, 2, 0, 3, 4] (by decide) rfl
    have eL : jt_sk c C L0 = jt_sa c C L0 := by first | exact jt_sa_0 (by omega) | exact jt_sa_1 (by omega)
    have hR9 := hu1
    rw [eL] at hR9
    rw [eL] at hP hD
    exact W.vret hx hb hr (fun t9 ht9 hW9 => ⟨⟨u1, rfl, hR9, by rw [ht9]; exact hP, hD⟩, hS.F ht9⟩) hS.2.2 d_J_sendAgain_20
  · skip
    have h4 := jw_nle0 (by omega) h4
    refine lv_aload_n hx hb d_J_sendAgain_7 rfl (lv_at hl 0 rfl) ?_
    refine lv_aload_n hx hb d_J_sendAgain_8 rfl (lv_at hl 1 rfl) ?_
    refine jw_jvP (rx := fun u3 : Nat → Nat → Int32 => [(x, .inr (5, [.ref ca, .ref z, .ref nn])), (q, .inr (0, [.int (nI c), .ref h, .ref g, .ref e, .int (nI (jc_pn C)), .int (nI (jc_bk C)), .int (nI (jc_rv C)), .int (nI (jc_on C))])), (e, .inl (cI, 8, .inl X.1)), (nn, .inr (1, [.ref gg, .int (nI ((jt_se c C L0).2))])), (gg, .inl (cG, 30, .inr (.inr (.inr (.inr (jx_o ad))))))]) (p1 := fun u3 : Nat → Nat → Int32 => jx_r ad cI u3) (X := [(x, .inr (5, [.ref ca, .ref z, .ref nn])), (q, .inr (0, [.int (nI c), .ref h, .ref g, .ref e, .int (nI (jc_pn C)), .int (nI (jc_bk C)), .int (nI (jc_rv C)), .int (nI (jc_on C))])), (e, .inl (cI, 8, .inl X.1)), (nn, .inr (1, [.ref gg, .int (nI L0.2)])), (gg, .inl (cG, 30, .inr (.inr (.inr (.inr (jx_o ad))))))]) (cx := [(x, .inr (5, [.ref ca, .ref z, .ref nn])), (q, .inr (0, [.int (nI c), .ref h, .ref g, .ref e, .int (nI (jc_pn C)), .int (nI (jc_bk C)), .int (nI (jc_rv C)), .int (nI (jc_on C))])), (e, .inl (cI, 8, .inl X.1)), (nn, .inr (1, [.ref gg, .int (nI L0.2)])), (gg, .inl (cG, 30, .inr (.inr (.inr (.inr (jx_o ad))))))]) (wr := []) (pl := jx_r ad cI M) (jw_uV (As := [.ref q]) (rest := []) hx hb hml hown ht (m_J_sendEdit l D _ x ca z nn gg ad cI cZ cG cC M L0 hM hL30 q e h a g b0 b1 b2 c C X hon (hX1 (by omega))) (o_J_sendEdit) k_J_200 rfl rfl ⟨Nat.le_of_ble_eq_true rfl, Nat.le_of_ble_eq_true rfl⟩ (hP.part [0, 1, 2, 3, 4] rfl) (hK.sub [0, 1, 2, 3] rfl) (hD.part [0, 1, 2, 3, 4] (by decide) rfl) (va_recv (q0 := 0) (ci := 5) hK hP rfl rfl) rfl hl.1 rfl (Nat.le_of_ble_eq_true rfl) d_J_sendAgain_9 ⟨Nat.zero_le _, Nat.zero_le _⟩) hP hD hS hA [0, 1, 2, 3, 4] [] rfl rfl (by decide) (by decide) (fun u3 H locs hu3 hP hD hS => ?_)
    have hP : va_P D jw_cl (([(x, .inr (5, [.ref ca, .ref z, .ref nn])), (q, .inr (0, [.int (nI c), .ref h, .ref g, .ref e, .int (nI (jc_pn C)), .int (nI (jc_bk C)), .int (nI (jc_rv C)), .int (nI (jc_on C))])), (e, .inl (cI, 8, .inl X.1)), (nn, .inr (1, [.ref gg, .int (nI ((jt_se c C L0).2))])), (gg, .inl (cG, 30, .inr (.inr (.inr (.inr (jx_o ad))))))] : va_W) ++ jx_r ad cI u3) H := hP
    have hD : va_D A (([(x, .inr (5, [.ref ca, .ref z, .ref nn])), (q, .inr (0, [.int (nI c), .ref h, .ref g, .ref e, .int (nI (jc_pn C)), .int (nI (jc_bk C)), .int (nI (jc_rv C)), .int (nI (jc_on C))])), (e, .inl (cI, 8, .inl X.1)), (nn, .inr (1, [.ref gg, .int (nI ((jt_se c C L0).2))])), (gg, .inl (cG, 30, .inr (.inr (.inr (.inr (jx_o ad))))))] : va_W) ++ jx_r ad cI u3) := hD
    refine lv_goto (tgt := 20) hx hb d_J_sendAgain_12 (by decide) ?_
    have hP := hP.part (cx := [(x, .inr (5, [.ref ca, .ref z, .ref nn])), (q, .inr (0, [.int (nI c), .ref h, .ref g, .ref e, .int (nI (jc_pn C)), .int (nI (jc_bk C)), .int (nI (jc_rv C)), .int (nI (jc_on C))])), (e, .inl (cI, 8, .inl X.1)), (nn, .inr (1, [.ref gg, .int (nI ((jt_se c C L0).2))])), (gg, .inl (cG, 30, .inr (.inr (.inr (.inr (jx_o ad))))))]) [0, 1, 2, 3, 4] rfl
    have hD := hD.part (cx := [(x, .inr (5, [.ref ca, .ref z, .ref nn])), (q, .inr (0, [.int (nI c), .ref h, .ref g, .ref e, .int (nI (jc_pn C)), .int (nI (jc_bk C)), .int (nI (jc_rv C)), .int (nI (jc_on C))])), (e, .inl (cI, 8, .inl X.1)), (nn, .inr (1, [.ref gg, .int (nI ((jt_se c C L0).2))])), (gg, .inl (cG, 30, .inr (.inr (.inr (.inr (jx_o ad))))))]) [0, 1, 2, 3, 4] (by decide) rfl
    have eL : jt_se c C L0 = jt_sa c C L0 := by first | exact jt_sa_0 (by omega) | exact jt_sa_1 (by omega)
    have hR9 := hu3
    rw [eL] at hR9
    rw [eL] at hP hD
    exact W.vret hx hb hr (fun t9 ht9 hW9 => ⟨⟨u3, rfl, hR9, by rw [ht9]; exact hP, hD⟩, hS.F ht9⟩) hS.2.2 d_J_sendAgain_20

theorem jt_se_le {c : Nat} {C : jt_C} {L : jt_L} (h : L.2 ≤ 30) : (jt_se c C L).2 ≤ 30 := by
  unfold jt_se
  split
  · exact h
  · exact jt_sd_le h
theorem jt_sa_le {c : Nat} {C : jt_C} {L : jt_L} (h : L.2 ≤ 30) : (jt_sa c C L).2 ≤ 30 := by
  unfold jt_sa
  split
  · exact h
  · split
    · exact jt_sd_le h
    · exact jt_sd_le h
theorem jt_nw_le {H : Nat → jt_O} {num : Nat → Nat} {c r : Nat} {L : jt_L} (h : L.2 ≤ 30) : ∀ j, (jt_nw H num c r L j).2 ≤ 30 := by
  intro j
  induction j with
  | zero => exact h
  | succ j ih => exact jt_sd_le ih
