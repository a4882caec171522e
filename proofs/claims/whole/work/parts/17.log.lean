/-- the rows of a log hold it -/
def jt_rl (fo fc fu : Nat → Int32) (C : jt_C) : Prop := ∀ i, i < jc_ln C → fo i = nI (jt_po (jc_lo C i)) ∧ fc i = nI (jc_lc C i) ∧ fu i = (if jc_lf C i = 1 then nI 1 else nI 0)
/-- a log with one entry more -/
def jt_ad (C : jt_C) (o : jt_O) (ch fl : Nat) : jt_C := (va_up (jc_lo C) (jc_ln C) o, va_up (jc_lc C) (jc_ln C) ch, va_up (jc_lf C) (jc_ln C) fl, jc_ln C + 1, C.2.2.2.2)
theorem jt_rl_add {fo fc fu : Nat → Int32} {C : jt_C} {o : jt_O} {ch fl b : Nat} (h : jt_rl fo fc fu C) (hb : nI b = if fl = 1 then nI 1 else nI 0) : jt_rl (upd fo (jc_ln C) (nI (jt_po o))) (upd fc (jc_ln C) (nI ch)) (upd fu (jc_ln C) (nI b)) (jt_ad C o ch fl) := by
  intro i hi
  have hi : i < jc_ln C + 1 := hi
  show upd fo (jc_ln C) (nI (jt_po o)) i = nI (jt_po (va_up (jc_lo C) (jc_ln C) o i)) ∧ upd fc (jc_ln C) (nI ch) i = nI (va_up (jc_lc C) (jc_ln C) ch i) ∧ upd fu (jc_ln C) (nI b) i = (if va_up (jc_lf C) (jc_ln C) fl i = 1 then nI 1 else nI 0)
  by_cases e : i = jc_ln C
  · subst e
    rw [pk_us, pk_us, pk_us, va_up_self, va_up_self, va_up_self]
    exact ⟨rfl, rfl, hb⟩
  · rw [pk_un e, pk_un e, pk_un e, va_up_ne _ _ e, va_up_ne _ _ e, va_up_ne _ _ e]
    exact h i (by omega)
theorem jt_rl_ud {fo fc fu : Nat → Int32} {C : jt_C} {j : Nat} (h : jt_rl fo fc fu C) : jt_rl fo fc (upd fu j (nI 0)) (jt_ud C j) := by
  intro i hi
  obtain ⟨h1, h2, h3⟩ := h i hi
  refine ⟨h1, h2, ?_⟩
  show upd fu j (nI 0) i = (if va_up (jc_lf C) j 3 i = 1 then nI 1 else nI 0)
  by_cases e : i = j
  · subst e
    rw [pk_us, va_up_self]
    rfl
  · rw [pk_un e, va_up_ne _ _ e]
    exact h3
theorem jw_nz {b : Nat} (h : b ≤ 1) : vp_nar .boolean (nI b) = nI b := by
  have : b = 0 ∨ b = 1 := by omega
  rcases this with e | e
  · rw [e]; decide
  · rw [e]; decide
theorem jw_dec (k : Nat) : nI k + Int32.ofInt (-1) = nI k - nI 1 := by rw [Int32.sub_eq_add_neg, show -(nI 1) = Int32.ofInt (-1) by decide]
/-- the answer of a search -/
def jw_oi : Option Nat → Int32
  | none => (-1)
  | some j => nI j
/-- what a client's state gives -/
theorem jt_ci_ln {H : Nat → jt_O} {N c : Nat} {C : jt_C} (h : jt_ci H N c C) (hN : N ≤ 60) : jc_ln C ≤ 68 := by
  obtain ⟨⟨a1, a2, a3, a4⟩, -⟩ := h
  omega
theorem jt_ci_lsm {H : Nat → jt_O} {N c : Nat} {C : jt_C} (h : jt_ci H N c C) (hN : N ≤ 60) : ∀ i, i < jc_ln C → jt_sm (jc_lo C i) := fun i hi => by
  have h1 := jt_ci_ln h hN
  have h2 := h.2.1.1 i hi
  have h3 := jt_le_le (jc_lo C) i
  exact jt_sm_of h2.1 h2.2 (by omega)
theorem jt_pl_le (p : Nat → jt_O) (n j : Nat) : jt_pl p n j ≤ n + j := by
  induction j with
  | zero => exact Nat.le_refl _
  | succ j ih => rw [jt_pl]; have := jt_ln_le (jt_pl p n j) (p j); omega
theorem jt_ci_psm {H : Nat → jt_O} {N c : Nat} {C : jt_C} (h : jt_ci H N c C) (hN : N ≤ 60) : ∀ j, j < jc_pn C → jt_sm (jc_pe C j) := fun j hj => by
  obtain ⟨⟨a1, a2, a3, a4⟩, ⟨b1, b2, b3, b4⟩, -⟩ := h
  have h3 := jt_le_le H (jc_rv C)
  have h4 := jt_pl_le (jc_pe C) (jt_le H (jc_rv C)) j
  exact jt_sm_of (b2 j hj).1 (b2 j hj).2 (by omega)
theorem jt_iv_ok {H : Nat → jt_O} {N c j : Nat} {C : jt_C} (h : jt_ci H N c C) (hj : j < jc_ln C) (hf : jc_lf C j = 1) : jt_ok (jt_le (jc_lo C) (j + 1)) (jt_iv C j) ∧ jt_wf (jt_iv C j) := by
  obtain ⟨⟨a1, a2, a3, a4⟩, ⟨b1, b2, b3, b4⟩, c0, d⟩ := h
  obtain ⟨d1, d2, d3⟩ := d j hj hf
  obtain ⟨⟨o1, o2, o3, o4⟩, w1, w2⟩ := b1 j hj
  refine ⟨?_, ?_⟩
  · rw [jt_le_s]
    unfold jt_iv jt_ln
    by_cases e : (jc_lo C j).1 = 1
    · rw [if_pos e, if_pos e]
      have := o2 e
      exact ⟨Nat.le_refl 2, fun h => absurd (show 2 = 1 from h) (by decide), fun _ => by show (jc_lo C j).2.1 < jt_le (jc_lo C) j + 1; omega, fun h => absurd (show 2 = 0 from h) (by decide)⟩
    · rw [if_neg e, if_neg e, if_pos (show (jc_lo C j).1 = 2 by omega)]
      have := o3 (by omega)
      exact ⟨(by decide : 1 ≤ 2), fun _ => by show (jc_lo C j).2.1 ≤ jt_le (jc_lo C) j - 1; omega, fun h => absurd (show 1 = 2 from h) (by decide), fun h => absurd (show 1 = 0 from h) (by decide)⟩
  · unfold jt_iv
    split
    · exact ⟨(by decide : 0 < 128), w2⟩
    · exact ⟨d3, w2⟩
theorem jt_bsm {H : Nat → jt_O} {N c j : Nat} {C : jt_C} (h : jt_ci H N c C) (hN : N ≤ 60) (hj : j < jc_ln C) (hf : jc_lf C j = 1) : ∀ i, j + 1 + i ≤ jc_ln C → jt_sm (jt_ms (jc_lo C) (j + 1) (jt_iv C j) i) := fun i hi => by
  obtain ⟨h1, h2⟩ := jt_iv_ok h hj hf
  have h3 := jt_ms_ok h.2.1.1 h1 i hi
  have h4 := jt_ci_ln h hN
  have h5 := jt_le_le (jc_lo C) (j + 1 + i)
  exact jt_sm_of h3 (jt_ms_wf h2 i) (by omega)

set_option maxHeartbeats 4000000 in
set_option maxRecDepth 100000 in
theorem m_G_add (l : Launch) (D : va_G) (sz : Nat) (g b0 b1 b2 : Nat) (cI cZ : ClassId) (fo fc fu : Nat → Int32) (C : jt_C) (hf : jt_rl fo fc fu C) (o : jt_O) (ch fl b : Nat) (hb1 : b ≤ 1) (hb2 : nI b = if fl = 1 then nI 1 else nI 0) (hn : jc_ln C < 68) : Met l y_G_add w_G_add ({ frames := 0, cells := 0, slots := 0, locals := 0 }) (jw_C [.ref g, .int (nI (jt_po o)), .int (nI ch), .int (nI b)] D jw_cl [(g, .inr (2, [.ref b0, .ref b1, .ref b2, .int (nI (jc_ln C))])), (b0, .inl (cI, 68, .inl fo)), (b1, .inl (cI, 68, .inl fc)), (b2, .inl (cZ, 68, .inl fu))] [(cI, .int), (cZ, .boolean)] sz) (va_Qv (fun u : (Nat → Int32) × (Nat → Int32) × (Nat → Int32) => jt_rl u.1 u.2.1 u.2.2 (jt_ad C o ch fl)) (jw_B D jw_cl (va_A [(g, .inr (2, [.ref b0, .ref b1, .ref b2, .int (nI (jc_ln C))])), (b0, .inl (cI, 68, .inl fo)), (b1, .inl (cI, 68, .inl fc)), (b2, .inl (cZ, 68, .inl fu))] sz) (fun u : (Nat → Int32) × (Nat → Int32) × (Nat → Int32) => [(g, .inr (2, [.ref b0, .ref b1, .ref b2, .int (nI (jc_ln C + 1))])), (b0, .inl (cI, 68, .inl u.1)), (b1, .inl (cI, 68, .inl u.2.1)), (b2, .inl (cZ, 68, .inl u.2.2))])) (va_A [(g, .inr (2, [.ref b0, .ref b1, .ref b2, .int (nI (jc_ln C))])), (b0, .inl (cI, 68, .inl fo)), (b1, .inl (cI, 68, .inl fc)), (b2, .inl (cZ, 68, .inl fu))] sz)) 0 0 (va_A [(g, .inr (2, [.ref b0, .ref b1, .ref b2, .int (nI (jc_ln C))])), (b0, .inl (cI, 68, .inl fo)), (b1, .inl (cI, 68, .inl fc)), (b2, .inl (cZ, 68, .inl fu))] sz) := by
  refine Met.ofW (cc := c_G_add) (maxL := 4) (ret := none) (by decide) rfl ?_
  intro pg0 en0 s m args below meth cd0 s₁ B hml hv
  obtain ⟨rfl, hsz, hP, hK, hD0⟩ := hv
  have hx := B.exec
  have hb := B.bytes
  have hr := B.returns
  have hts := atoms_spec (ws := w_G_add) B.pre
  have ht : ∀ w ∈ jw_tbl, w.before _ s = true := fun w h => hts w (List.mem_cons_of_mem _ h)
  have hown : s.vm.findClass jn_G = some m.cls := findClass_of_methodNamed B.named
  have hlocks := B.notSynchronized
  subst hsz
  have hD := hD0.self (sz := s.heap.size)
  generalize hAe : va_A [(g, .inr (2, [.ref b0, .ref b1, .ref b2, .int (nI (jc_ln C))])), (b0, .inl (cI, 68, .inl fo)), (b1, .inl (cI, 68, .inl fc)), (b2, .inl (cZ, 68, .inl fu))] s.heap.size = A at hD ⊢
  have hA : ∀ q : Nat, s.heap.size ≤ q → A q := fun q h => by rw [← hAe]; exact Or.inr h
  have hS : va_S A s.heap s.heap [] := va_S.rf
  have hP : va_P D jw_cl [(g, .inr (2, [.ref b0, .ref b1, .ref b2, .int (nI (jc_ln C))])), (b0, .inl (cI, 68, .inl fo)), (b1, .inl (cI, 68, .inl fc)), (b2, .inl (cZ, 68, .inl fu))] s.heap := hP
  have hl := lv_entry ([.ref g, .int (nI (jt_po o)), .int (nI ch), .int (nI b)]) (n := 4) (Nat.le_of_ble_eq_true rfl)
  rw [lg_entry_eq]
  generalize (lg_sl ([.ref g, .int (nI (jt_po o)), .int (nI ch), .int (nI b)]) ++ List.replicate (4 - (lg_sl ([.ref g, .int (nI (jt_po o)), .int (nI ch), .int (nI b)])).length) Slot.unset).toArray = ls at hl ⊢
  have hl : lv_has ls 4 [(0, .ref g), (1, .int (nI (jt_po o))), (2, .int (nI ch)), (3, .int (nI b))] := hl
  refine lv_aload_n hx hb d_G_add_0 rfl (lv_at hl 0 rfl) ?_
  refine va_get (D := D) (ci := 2) (v := .int (nI (jc_ln C))) (C := jn_G) (T := jf_G) (N := 4) hx hb ht ji_G hown hK hP 0 rfl rfl 3 (by decide) (ht _ k_G_22) (fun _ h9 => h9) rfl d_G_add_1 ?_
  refine lv_bipush (v := nI 68) hx hb d_G_add_4 (by decide) ?_
  refine lv_icmp_lt (tgt := 10) hx hb d_G_add_6 (by decide) (fun h6 => ?_) (fun h6 => absurd (jw_nlt (by omega) (by omega) h6) (by omega))
  have h6 := jw_lt (by omega) (by omega) h6
  refine lv_aload_n hx hb d_G_add_10 rfl (lv_at hl 0 rfl) ?_
  refine va_get (D := D) (ci := 2) (v := .ref b0) (C := jn_G) (T := jf_G) (N := 4) hx hb ht ji_G hown hK hP 0 rfl rfl 0 (by decide) (ht _ k_G_9) (fun _ h9 => h9) rfl d_G_add_11 ?_
  refine lv_aload_n hx hb d_G_add_14 rfl (lv_at hl 0 rfl) ?_
  refine va_get (D := D) (ci := 2) (v := .int (nI (jc_ln C))) (C := jn_G) (T := jf_G) (N := 4) hx hb ht ji_G hown hK hP 0 rfl rfl 3 (by decide) (ht _ k_G_22) (fun _ h9 => h9) rfl d_G_add_15 ?_
  refine lv_iload_n hx hb d_G_add_18 rfl (lv_at hl 1 rfl) ?_
  refine va_iast hx hb hK hP hD hS 1 0 rfl rfl (vp_in_nI (by omega) (by decide)) d_G_add_19 (fun H locs hP hD hS => ?_)
  rw [show (nI (jc_ln C)).toNatClampNeg = jc_ln C from nI_clamp (by omega)] at hP hD
  have hP : va_P D jw_cl [(g, .inr (2, [.ref b0, .ref b1, .ref b2, .int (nI (jc_ln C))])), (b0, .inl (cI, 68, .inl (upd fo (jc_ln C) (nI (jt_po o))))), (b1, .inl (cI, 68, .inl fc)), (b2, .inl (cZ, 68, .inl fu))] H := hP
  have hD : va_D A [(g, .inr (2, [.ref b0, .ref b1, .ref b2, .int (nI (jc_ln C))])), (b0, .inl (cI, 68, .inl (upd fo (jc_ln C) (nI (jt_po o))))), (b1, .inl (cI, 68, .inl fc)), (b2, .inl (cZ, 68, .inl fu))] := hD
  refine lv_aload_n hx hb d_G_add_20 rfl (lv_at hl 0 rfl) ?_
  refine va_get (D := D) (ci := 2) (v := .ref b1) (C := jn_G) (T := jf_G) (N := 4) hx hb ht ji_G hown hK hP 0 rfl rfl 1 (by decide) (ht _ k_G_15) (fun _ h9 => h9) rfl d_G_add_21 ?_
  refine lv_aload_n hx hb d_G_add_24 rfl (lv_at hl 0 rfl) ?_
  refine va_get (D := D) (ci := 2) (v := .int (nI (jc_ln C))) (C := jn_G) (T := jf_G) (N := 4) hx hb ht ji_G hown hK hP 0 rfl rfl 3 (by decide) (ht _ k_G_22) (fun _ h9 => h9) rfl d_G_add_25 ?_
  refine lv_iload_n hx hb d_G_add_28 rfl (lv_at hl 2 rfl) ?_
  refine va_iast hx hb hK hP hD hS 2 0 rfl rfl (vp_in_nI (by omega) (by decide)) d_G_add_29 (fun H locs hP hD hS => ?_)
  rw [show (nI (jc_ln C)).toNatClampNeg = jc_ln C from nI_clamp (by omega)] at hP hD
  have hP : va_P D jw_cl [(g, .inr (2, [.ref b0, .ref b1, .ref b2, .int (nI (jc_ln C))])), (b0, .inl (cI, 68, .inl (upd fo (jc_ln C) (nI (jt_po o))))), (b1, .inl (cI, 68, .inl (upd fc (jc_ln C) (nI ch)))), (b2, .inl (cZ, 68, .inl fu))] H := hP
  have hD : va_D A [(g, .inr (2, [.ref b0, .ref b1, .ref b2, .int (nI (jc_ln C))])), (b0, .inl (cI, 68, .inl (upd fo (jc_ln C) (nI (jt_po o))))), (b1, .inl (cI, 68, .inl (upd fc (jc_ln C) (nI ch)))), (b2, .inl (cZ, 68, .inl fu))] := hD
  refine lv_aload_n hx hb d_G_add_30 rfl (lv_at hl 0 rfl) ?_
  refine va_get (D := D) (ci := 2) (v := .ref b2) (C := jn_G) (T := jf_G) (N := 4) hx hb ht ji_G hown hK hP 0 rfl rfl 2 (by decide) (ht _ k_G_18) (fun _ h9 => h9) rfl d_G_add_31 ?_
  refine lv_aload_n hx hb d_G_add_34 rfl (lv_at hl 0 rfl) ?_
  refine va_get (D := D) (ci := 2) (v := .int (nI (jc_ln C))) (C := jn_G) (T := jf_G) (N := 4) hx hb ht ji_G hown hK hP 0 rfl rfl 3 (by decide) (ht _ k_G_22) (fun _ h9 => h9) rfl d_G_add_35 ?_
  refine lv_iload_n hx hb d_G_add_38 rfl (lv_at hl 3 rfl) ?_
  refine va_zast hx hb hK hP hD hS 3 1 rfl rfl (vp_in_nI (by omega) (by decide)) d_G_add_39 (fun H locs hP hD hS => ?_)
  rw [show (nI (jc_ln C)).toNatClampNeg = jc_ln C from nI_clamp (by omega)] at hP hD
  rw [show vp_nar .boolean (nI b) = nI b from jw_nz hb1] at hP hD
  have hP : va_P D jw_cl [(g, .inr (2, [.ref b0, .ref b1, .ref b2, .int (nI (jc_ln C))])), (b0, .inl (cI, 68, .inl (upd fo (jc_ln C) (nI (jt_po o))))), (b1, .inl (cI, 68, .inl (upd fc (jc_ln C) (nI ch)))), (b2, .inl (cZ, 68, .inl (upd fu (jc_ln C) (nI b))))] H := hP
  have hD : va_D A [(g, .inr (2, [.ref b0, .ref b1, .ref b2, .int (nI (jc_ln C))])), (b0, .inl (cI, 68, .inl (upd fo (jc_ln C) (nI (jt_po o))))), (b1, .inl (cI, 68, .inl (upd fc (jc_ln C) (nI ch)))), (b2, .inl (cZ, 68, .inl (upd fu (jc_ln C) (nI b))))] := hD
  refine lv_aload_n hx hb d_G_add_40 rfl (lv_at hl 0 rfl) ?_
  refine lv_dup hx hb d_G_add_41 rfl ?_
  refine va_get (D := D) (ci := 2) (v := .int (nI (jc_ln C))) (C := jn_G) (T := jf_G) (N := 4) hx hb ht ji_G hown hK hP 0 rfl rfl 3 (by decide) (ht _ k_G_22) (fun _ h9 => h9) rfl d_G_add_42 ?_
  refine lv_iconst (v := nI 1) hx hb d_G_add_45 (by decide) ?_
  refine lv_iadd hx hb d_G_add_46 ?_
  refine lv_topi (fun v1 ev1 => ?_)
  obtain rfl : v1 = nI (jc_ln C + 1) := ev1.trans (nI_add _ _)
  refine va_put (D := D) (ci := 2) (v := .int (nI (jc_ln C + 1))) (ty := .int) (C := jn_G) (T := jf_G) (N := 4) hx hb ht ji_G jy_G jo_G jm_G hown hK hP hD hS 0 rfl rfl 3 (by decide) (ht _ k_G_22) (fun _ h9 => h9) rfl (by decide +kernel) rfl rfl (Nat.le_of_ble_eq_true rfl) d_G_add_47 (fun H locs hP hD hS => ?_)
  have hP : va_P D jw_cl [(g, .inr (2, [.ref b0, .ref b1, .ref b2, .int (nI (jc_ln C + 1))])), (b0, .inl (cI, 68, .inl (upd fo (jc_ln C) (nI (jt_po o))))), (b1, .inl (cI, 68, .inl (upd fc (jc_ln C) (nI ch)))), (b2, .inl (cZ, 68, .inl (upd fu (jc_ln C) (nI b))))] H := hP
  have hD : va_D A [(g, .inr (2, [.ref b0, .ref b1, .ref b2, .int (nI (jc_ln C + 1))])), (b0, .inl (cI, 68, .inl (upd fo (jc_ln C) (nI (jt_po o))))), (b1, .inl (cI, 68, .inl (upd fc (jc_ln C) (nI ch)))), (b2, .inl (cZ, 68, .inl (upd fu (jc_ln C) (nI b))))] := hD
  exact W.vret hx hb hr (fun t9 ht9 hW9 => ⟨⟨(upd fo (jc_ln C) (nI (jt_po o)), upd fc (jc_ln C) (nI ch), upd fu (jc_ln C) (nI b)), rfl, jt_rl_add hf hb2, by rw [ht9]; exact hP, hD⟩, hS.F ht9⟩) hS.2.2 d_G_add_50

set_option maxHeartbeats 4000000 in
set_option maxRecDepth 100000 in
theorem m_G_latestToUndo (l : Launch) (D : va_G) (g b0 b1 b2 : Nat) (cI cZ : ClassId) (fo fc fu : Nat → Int32) (C : jt_C) (hf : jt_rl fo fc fu C) (hn : jc_ln C ≤ 68) : Met l y_G_latestToUndo w_G_latestToUndo ({ frames := 0, cells := 0, slots := 0, locals := 0 }) (jw_P [.ref g] D jw_cl [(g, .inr (2, [.ref b0, .ref b1, .ref b2, .int (nI (jc_ln C))])), (b0, .inl (cI, 68, .inl fo)), (b1, .inl (cI, 68, .inl fc)), (b2, .inl (cZ, 68, .inl fu))] [(cI, .int), (cZ, .boolean)]) (k2_QcV (.int (jw_oi (jt_la (jc_lf C) (jc_ln C))))) 0 0 (fun _ => False) := by
  refine Met.ofW (cc := c_G_latestToUndo) (maxL := 2) (ret := (some .int)) (by decide) rfl ?_
  intro pg0 en0 s m args below meth cd0 s₁ B hml hv
  obtain ⟨rfl, hP, hK⟩ := hv
  have hx := B.exec
  have hb := B.bytes
  have hr := B.returns
  have hts := atoms_spec (ws := w_G_latestToUndo) B.pre
  have ht : ∀ w ∈ jw_tbl, w.before _ s = true := fun w h => hts w (List.mem_cons_of_mem _ h)
  have hown : s.vm.findClass jn_G = some m.cls := findClass_of_methodNamed B.named
  have hlocks := B.notSynchronized
  have hl := lv_entry ([.ref g]) (n := 2) (Nat.le_of_ble_eq_true rfl)
  rw [lg_entry_eq]
  generalize (lg_sl ([.ref g]) ++ List.replicate (2 - (lg_sl ([.ref g])).length) Slot.unset).toArray = ls at hl ⊢
  have hl : lv_has ls 2 [(0, .ref g)] := hl
  have hn68 := hn
  refine lv_aload_n hx hb d_G_latestToUndo_0 rfl (lv_at hl 0 rfl) ?_
  refine va_get (D := D) (ci := 2) (v := .int (nI (jc_ln C))) (C := jn_G) (T := jf_G) (N := 4) hx hb ht ji_G hown hK hP 0 rfl rfl 3 (by decide) (ht _ k_G_22) (fun _ h9 => h9) rfl d_G_latestToUndo_1 ?_
  refine lv_iconst (v := nI 1) hx hb d_G_latestToUndo_4 (by decide) ?_
  refine lv_isub hx hb d_G_latestToUndo_5 ?_
  refine lv_topi (fun v1 ev1 => ?_)
  obtain rfl : v1 = nI (jc_ln C) - nI 1 := ev1.trans (rfl)
  refine lv_istore_n (lv' := [(1, .int (nI (jc_ln C) - nI 1)), (0, .ref g)]) hx hb d_G_latestToUndo_6 rfl hl (by decide) rfl (fun ls hl => ?_)
  refine jw_loopR (I := fun k ls => k ≤ jc_ln C ∧ jt_la (jc_lf C) (jc_ln C) = jt_la (jc_lf C) k ∧ lv_has ls 2 [(1, .int (nI k - nI 1)), (0, .ref g)]) (jc_ln C) ⟨Nat.le_refl _, rfl, hl⟩ (fun k ls hI ih => ?_)
  obtain ⟨hk, hla, hl⟩ := hI
  cases k with
  | zero =>
    rw [show nI 0 - nI 1 = (-1) by decide] at hl
    refine lv_iload_n hx hb d_G_latestToUndo_7 rfl (lv_at hl 0 rfl) ?_
    refine lv_if_lt (tgt := 28) hx hb d_G_latestToUndo_8 (by decide) (fun h8 => ?_) (fun h8 => absurd (by decide) h8)
    refine lv_iconst (v := (-1)) hx hb d_G_latestToUndo_28 (by decide) ?_
    exact W.iret (v := (-1)) hx hb hr (fun t9 ht9 _ => ⟨congrArg (fun z => Outcome.returned (some (Value.int z))) (by rw [hla]; rfl), ht9⟩) (fun q h => by cases h) d_G_latestToUndo_29
  | succ k =>
    rw [show nI (k + 1) - nI 1 = nI k from nI_pred k] at hl
    refine lv_iload_n hx hb d_G_latestToUndo_7 rfl (lv_at hl 0 rfl) ?_
    refine lv_if_lt (tgt := 28) hx hb d_G_latestToUndo_8 (by decide) (fun h8 => absurd (jw_lt0 (by omega) h8) (by omega)) (fun h8 => ?_)
    have h8 := jw_nlt0 (by omega) h8
    refine lv_aload_n hx hb d_G_latestToUndo_11 rfl (lv_at hl 1 rfl) ?_
    refine va_get (D := D) (ci := 2) (v := .ref b2) (C := jn_G) (T := jf_G) (N := 4) hx hb ht ji_G hown hK hP 0 rfl rfl 2 (by decide) (ht _ k_G_18) (fun _ h9 => h9) rfl d_G_latestToUndo_12 ?_
    refine lv_iload_n hx hb d_G_latestToUndo_15 rfl (lv_at hl 0 rfl) ?_
    refine va_zald hx hb hK hP 3 1 rfl rfl (vp_in_nI (by omega) (by decide)) d_G_latestToUndo_16 ?_
    rw [show (nI k).toNatClampNeg = k from nI_clamp (by omega)]
    rw [show fu k = (if jc_lf C k = 1 then nI 1 else nI 0) from (hf k (by omega)).2.2]
    refine lv_if_eq (tgt := 22) hx hb d_G_latestToUndo_17 (by decide) (fun h17 => ?_) (fun h17 => ?_)
    · skip
      refine lv_iinc (v := nI k - nI 1) (lv' := [(1, .int (nI k - nI 1)), (0, .ref g)]) hx hb d_G_latestToUndo_22 hl (k := 0) rfl (jw_dec k) (by decide) rfl (fun ls hl => ?_)
      refine lv_goto (tgt := 7) hx hb d_G_latestToUndo_25 (by decide) ?_
      exact ih k ls (Nat.lt_succ_self k) ⟨by omega, hla.trans (if_neg (fun q => absurd h17 (by rw [if_pos q]; decide))), hl⟩
    · skip
      refine lv_iload_n hx hb d_G_latestToUndo_20 rfl (lv_at hl 0 rfl) ?_
      exact W.iret (v := nI k) hx hb hr (fun t9 ht9 _ => ⟨congrArg (fun z => Outcome.returned (some (Value.int z))) (by rw [hla]; show nI k = jw_oi (if jc_lf C k = 1 then some k else jt_la (jc_lf C) k); rw [if_pos (by by_cases z : jc_lf C k = 1; exact z; exact absurd (by rw [if_neg z]; decide) h17)]; rfl), ht9⟩) (fun q h => by cases h) d_G_latestToUndo_21

set_option maxHeartbeats 4000000 in
set_option maxRecDepth 100000 in
theorem m_G_inverse (l : Launch) (D : va_G) (g b0 b1 b2 : Nat) (cI cZ : ClassId) (fo fc fu : Nat → Int32) (C : jt_C) (hf : ∀ i, i < jc_ln C → fo i = nI (jt_po (jc_lo C i)) ∧ fc i = nI (jc_lc C i)) (H0 : Nat → jt_O) (N0 c0 : Nat) (hC : jt_ci H0 N0 c0 C) (hN : N0 ≤ 60) (j : Nat) (hj : j < jc_ln C) (hfl : jc_lf C j = 1) : Met l y_G_inverse w_G_inverse ({ frames := 1, cells := 0, slots := 0, locals := 23 }) (jw_P [.ref g, .int (nI j)] D jw_cl [(g, .inr (2, [.ref b0, .ref b1, .ref b2, .int (nI (jc_ln C))])), (b0, .inl (cI, 68, .inl fo)), (b1, .inl (cI, 68, .inl fc)), (b2, .inl (cZ, 68, .inl fu))] [(cI, .int), (cZ, .boolean)]) (k2_QcV (.int (nI (jt_po (jt_iv C j))))) 0 0 (fun _ => False) := by
  refine Met.ofW (cc := c_G_inverse) (maxL := 4) (ret := (some .int)) (by decide) rfl ?_
  intro pg0 en0 s m args below meth cd0 s₁ B hml hv
  obtain ⟨rfl, hP, hK⟩ := hv
  have hx := B.exec
  have hb := B.bytes
  have hr := B.returns
  have hts := atoms_spec (ws := w_G_inverse) B.pre
  have ht : ∀ w ∈ jw_tbl, w.before _ s = true := fun w h => hts w (List.mem_cons_of_mem _ h)
  have hown : s.vm.findClass jn_G = some m.cls := findClass_of_methodNamed B.named
  have hlocks := B.notSynchronized
  have hl := lv_entry ([.ref g, .int (nI j)]) (n := 4) (Nat.le_of_ble_eq_true rfl)
  rw [lg_entry_eq]
  generalize (lg_sl ([.ref g, .int (nI j)]) ++ List.replicate (4 - (lg_sl ([.ref g, .int (nI j)])).length) Slot.unset).toArray = ls at hl ⊢
  have hl : lv_has ls 4 [(0, .ref g), (1, .int (nI j))] := hl
  have hn68 := jt_ci_ln hC hN
  have hsm := jt_ci_lsm hC hN j hj
  obtain ⟨z1, z2, z3⟩ := hC.2.2.2 j hj hfl
  obtain ⟨y1, y2, y3, y4⟩ := id hsm
  refine lv_aload_n hx hb d_G_inverse_0 rfl (lv_at hl 0 rfl) ?_
  refine va_get (D := D) (ci := 2) (v := .ref b0) (C := jn_G) (T := jf_G) (N := 4) hx hb ht ji_G hown hK hP 0 rfl rfl 0 (by decide) (ht _ k_G_9) (fun _ h9 => h9) rfl d_G_inverse_1 ?_
  refine lv_iload_n hx hb d_G_inverse_4 rfl (lv_at hl 1 rfl) ?_
  refine va_iald hx hb hK hP 1 0 rfl rfl (vp_in_nI (by omega) (by decide)) d_G_inverse_5 ?_
  rw [show (nI j).toNatClampNeg = j from nI_clamp (by omega)]
  rw [show fo j = nI (jt_po (jc_lo C j)) from (hf j hj).1]
  refine jw_rS (As := [.int (nI (jt_po (jc_lo C j)))]) (rest := []) hx hb hml hown ht (m_O_positionOf l D (jc_lo C j) hsm) (o_O_positionOf) k_G_36 rfl rfl ⟨Nat.le_of_ble_eq_true rfl, Nat.le_of_ble_eq_true rfl⟩ (hP.sub [] rfl) (hK.sub [] rfl) rfl hl.1 rfl (Nat.le_of_ble_eq_true rfl) d_G_inverse_6 ⟨Nat.zero_le _, Nat.zero_le _⟩ ?_
  refine lv_istore_n (lv' := [(2, .int (nI ((jc_lo C j).2.1))), (0, .ref g), (1, .int (nI j))]) hx hb d_G_inverse_9 rfl hl (by decide) rfl (fun ls hl => ?_)
  refine lv_aload_n hx hb d_G_inverse_10 rfl (lv_at hl 1 rfl) ?_
  refine va_get (D := D) (ci := 2) (v := .ref b0) (C := jn_G) (T := jf_G) (N := 4) hx hb ht ji_G hown hK hP 0 rfl rfl 0 (by decide) (ht _ k_G_9) (fun _ h9 => h9) rfl d_G_inverse_11 ?_
  refine lv_iload_n hx hb d_G_inverse_14 rfl (lv_at hl 2 rfl) ?_
  refine va_iald hx hb hK hP 1 0 rfl rfl (vp_in_nI (by omega) (by decide)) d_G_inverse_15 ?_
  rw [show (nI j).toNatClampNeg = j from nI_clamp (by omega)]
  rw [show fo j = nI (jt_po (jc_lo C j)) from (hf j hj).1]
  refine jw_rS (As := [.int (nI (jt_po (jc_lo C j)))]) (rest := []) hx hb hml hown ht (m_O_siteOf l D (jc_lo C j) hsm) (o_O_siteOf) k_G_39 rfl rfl ⟨Nat.le_of_ble_eq_true rfl, Nat.le_of_ble_eq_true rfl⟩ (hP.sub [] rfl) (hK.sub [] rfl) rfl hl.1 rfl (Nat.le_of_ble_eq_true rfl) d_G_inverse_16 ⟨Nat.zero_le _, Nat.zero_le _⟩ ?_
  refine lv_istore_n (lv' := [(3, .int (nI ((jc_lo C j).2.2.2))), (2, .int (nI ((jc_lo C j).2.1))), (0, .ref g), (1, .int (nI j))]) hx hb d_G_inverse_19 rfl hl (by decide) rfl (fun ls hl => ?_)
  refine lv_aload_n hx hb d_G_inverse_20 rfl (lv_at hl 2 rfl) ?_
  refine va_get (D := D) (ci := 2) (v := .ref b0) (C := jn_G) (T := jf_G) (N := 4) hx hb ht ji_G hown hK hP 0 rfl rfl 0 (by decide) (ht _ k_G_9) (fun _ h9 => h9) rfl d_G_inverse_21 ?_
  refine lv_iload_n hx hb d_G_inverse_24 rfl (lv_at hl 3 rfl) ?_
  refine va_iald hx hb hK hP 1 0 rfl rfl (vp_in_nI (by omega) (by decide)) d_G_inverse_25 ?_
  rw [show (nI j).toNatClampNeg = j from nI_clamp (by omega)]
  rw [show fo j = nI (jt_po (jc_lo C j)) from (hf j hj).1]
  refine jw_rS (As := [.int (nI (jt_po (jc_lo C j)))]) (rest := []) hx hb hml hown ht (m_O_kindOf l D (jc_lo C j) hsm) (o_O_kindOf) k_G_42 rfl rfl ⟨Nat.le_of_ble_eq_true rfl, Nat.le_of_ble_eq_true rfl⟩ (hP.sub [] rfl) (hK.sub [] rfl) rfl hl.1 rfl (Nat.le_of_ble_eq_true rfl) d_G_inverse_26 ⟨Nat.zero_le _, Nat.zero_le _⟩ ?_
  refine lv_iconst (v := nI 1) hx hb d_G_inverse_29 (by decide) ?_
  refine lv_icmp_ne (tgt := 41) hx hb d_G_inverse_30 (by decide) (fun h30 => ?_) (fun h30 => ?_)
  · skip
    have h30 := jw_ne (by omega) (by omega) h30
    refine lv_iconst (v := nI 1) hx hb d_G_inverse_41 (by decide) ?_
    refine lv_iload_n hx hb d_G_inverse_42 rfl (lv_at hl 1 rfl) ?_
    refine lv_aload_n hx hb d_G_inverse_43 rfl (lv_at hl 2 rfl) ?_
    refine va_get (D := D) (ci := 2) (v := .ref b1) (C := jn_G) (T := jf_G) (N := 4) hx hb ht ji_G hown hK hP 0 rfl rfl 1 (by decide) (ht _ k_G_15) (fun _ h9 => h9) rfl d_G_inverse_44 ?_
    refine lv_iload_n hx hb d_G_inverse_47 rfl (lv_at hl 3 rfl) ?_
    refine va_iald hx hb hK hP 2 0 rfl rfl (vp_in_nI (by omega) (by decide)) d_G_inverse_48 ?_
    rw [show (nI j).toNatClampNeg = j from nI_clamp (by omega)]
    rw [show fc j = nI (jc_lc C j) from (hf j hj).2]
    refine lv_iload_n hx hb d_G_inverse_49 rfl (lv_at hl 0 rfl) ?_
    refine jw_rS (As := [.int (nI 1), .int (nI ((jc_lo C j).2.1)), .int (nI (jc_lc C j)), .int (nI ((jc_lo C j).2.2.2))]) (rest := []) hx hb hml hown ht (m_O_of l D 1 ((jc_lo C j).2.1) (jc_lc C j) ((jc_lo C j).2.2.2) (by omega) (by omega) (by omega) (by omega)) (o_O_of) k_G_45 rfl rfl ⟨Nat.le_of_ble_eq_true rfl, Nat.le_of_ble_eq_true rfl⟩ (hP.sub [] rfl) (hK.sub [] rfl) rfl hl.1 rfl (Nat.le_of_ble_eq_true rfl) d_G_inverse_50 ⟨Nat.zero_le _, Nat.zero_le _⟩ ?_
    exact W.iret (v := nI (jt_pk 1 ((jc_lo C j).2.1) (jc_lc C j) ((jc_lo C j).2.2.2))) hx hb hr (fun t9 ht9 _ => ⟨congrArg (fun z => Outcome.returned (some (Value.int z))) (by unfold jt_iv; first | (rw [if_pos (by omega)]; rfl) | (rw [if_neg (by omega)]; rfl)), ht9⟩) (fun q h => by cases h) d_G_inverse_53
  · skip
    have h30 := jw_eq (by omega) (by omega) h30
    refine lv_iconst (v := nI 2) hx hb d_G_inverse_33 (by decide) ?_
    refine lv_iload_n hx hb d_G_inverse_34 rfl (lv_at hl 1 rfl) ?_
    refine lv_iconst (v := nI 0) hx hb d_G_inverse_35 (by decide) ?_
    refine lv_iload_n hx hb d_G_inverse_36 rfl (lv_at hl 0 rfl) ?_
    refine jw_rS (As := [.int (nI 2), .int (nI ((jc_lo C j).2.1)), .int (nI 0), .int (nI ((jc_lo C j).2.2.2))]) (rest := []) hx hb hml hown ht (m_O_of l D 2 ((jc_lo C j).2.1) 0 ((jc_lo C j).2.2.2) (by omega) (by omega) (by omega) (by omega)) (o_O_of) k_G_45 rfl rfl ⟨Nat.le_of_ble_eq_true rfl, Nat.le_of_ble_eq_true rfl⟩ (hP.sub [] rfl) (hK.sub [] rfl) rfl hl.1 rfl (Nat.le_of_ble_eq_true rfl) d_G_inverse_37 ⟨Nat.zero_le _, Nat.zero_le _⟩ ?_
    exact W.iret (v := nI (jt_pk 2 ((jc_lo C j).2.1) 0 ((jc_lo C j).2.2.2))) hx hb hr (fun t9 ht9 _ => ⟨congrArg (fun z => Outcome.returned (some (Value.int z))) (by unfold jt_iv; first | (rw [if_pos (by omega)]; rfl) | (rw [if_neg (by omega)]; rfl)), ht9⟩) (fun q h => by cases h) d_G_inverse_40

set_option maxHeartbeats 4000000 in
set_option maxRecDepth 100000 in
theorem m_G_takeBack (l : Launch) (D : va_G) (sz : Nat) (g b0 b1 b2 : Nat) (cI cZ : ClassId) (fo fc fu : Nat → Int32) (C : jt_C) (hf : jt_rl fo fc fu C) (H0 : Nat → jt_O) (N0 c0 : Nat) (hC : jt_ci H0 N0 c0 C) (hN : N0 ≤ 60) (j : Nat) (hj : j < jc_ln C) (hfl : jc_lf C j = 1) : Met l y_G_takeBack w_G_takeBack ({ frames := 4, cells := 0, slots := 0, locals := 87 }) (jw_C [.ref g, .int (nI j)] D jw_cl [(g, .inr (2, [.ref b0, .ref b1, .ref b2, .int (nI (jc_ln C))])), (b0, .inl (cI, 68, .inl fo)), (b1, .inl (cI, 68, .inl fc)), (b2, .inl (cZ, 68, .inl fu))] [(cI, .int), (cZ, .boolean)] sz) (va_Qi (fun (r : Int32) (u : Nat → Int32) => r = nI (jt_po (jt_bo C j)) ∧ jt_rl fo fc u (jt_ud C j)) (jw_B D jw_cl (va_A [(g, .inr (2, [.ref b0, .ref b1, .ref b2, .int (nI (jc_ln C))])), (b0, .inl (cI, 68, .inl fo)), (b1, .inl (cI, 68, .inl fc)), (b2, .inl (cZ, 68, .inl fu))] sz) (fun u : Nat → Int32 => [(g, .inr (2, [.ref b0, .ref b1, .ref b2, .int (nI (jc_ln C))])), (b0, .inl (cI, 68, .inl fo)), (b1, .inl (cI, 68, .inl fc)), (b2, .inl (cZ, 68, .inl u))])) (va_A [(g, .inr (2, [.ref b0, .ref b1, .ref b2, .int (nI (jc_ln C))])), (b0, .inl (cI, 68, .inl fo)), (b1, .inl (cI, 68, .inl fc)), (b2, .inl (cZ, 68, .inl fu))] sz)) 0 0 (va_A [(g, .inr (2, [.ref b0, .ref b1, .ref b2, .int (nI (jc_ln C))])), (b0, .inl (cI, 68, .inl fo)), (b1, .inl (cI, 68, .inl fc)), (b2, .inl (cZ, 68, .inl fu))] sz) := by
  refine Met.ofW (cc := c_G_takeBack) (maxL := 4) (ret := (some .int)) (by decide) rfl ?_
  intro pg0 en0 s m args below meth cd0 s₁ B hml hv
  obtain ⟨rfl, hsz, hP, hK, hD0⟩ := hv
  have hx := B.exec
  have hb := B.bytes
  have hr := B.returns
  have hts := atoms_spec (ws := w_G_takeBack) B.pre
  have ht : ∀ w ∈ jw_tbl, w.before _ s = true := fun w h => hts w (List.mem_cons_of_mem _ h)
  have hown : s.vm.findClass jn_G = some m.cls := findClass_of_methodNamed B.named
  have hlocks := B.notSynchronized
  subst hsz
  have hD := hD0.self (sz := s.heap.size)
  generalize hAe : va_A [(g, .inr (2, [.ref b0, .ref b1, .ref b2, .int (nI (jc_ln C))])), (b0, .inl (cI, 68, .inl fo)), (b1, .inl (cI, 68, .inl fc)), (b2, .inl (cZ, 68, .inl fu))] s.heap.size = A at hD ⊢
  have hA : ∀ q : Nat, s.heap.size ≤ q → A q := fun q h => by rw [← hAe]; exact Or.inr h
  have hS : va_S A s.heap s.heap [] := va_S.rf
  have hP : va_P D jw_cl [(g, .inr (2, [.ref b0, .ref b1, .ref b2, .int (nI (jc_ln C))])), (b0, .inl (cI, 68, .inl fo)), (b1, .inl (cI, 68, .inl fc)), (b2, .inl (cZ, 68, .inl fu))] s.heap := hP
  have hl := lv_entry ([.ref g, .int (nI j)]) (n := 4) (Nat.le_of_ble_eq_true rfl)
  rw [lg_entry_eq]
  generalize (lg_sl ([.ref g, .int (nI j)]) ++ List.replicate (4 - (lg_sl ([.ref g, .int (nI j)])).length) Slot.unset).toArray = ls at hl ⊢
  have hl : lv_has ls 4 [(0, .ref g), (1, .int (nI j))] := hl
  have hn68 := jt_ci_ln hC hN
  have hbsm := jt_bsm hC hN hj hfl
  have hlsm := jt_ci_lsm hC hN
  refine lv_aload_n hx hb d_G_takeBack_0 rfl (lv_at hl 0 rfl) ?_
  refine va_get (D := D) (ci := 2) (v := .ref b2) (C := jn_G) (T := jf_G) (N := 4) hx hb ht ji_G hown hK hP 0 rfl rfl 2 (by decide) (ht _ k_G_18) (fun _ h9 => h9) rfl d_G_takeBack_1 ?_
  refine lv_iload_n hx hb d_G_takeBack_4 rfl (lv_at hl 1 rfl) ?_
  refine lv_iconst (v := nI 0) hx hb d_G_takeBack_5 (by decide) ?_
  refine va_zast hx hb hK hP hD hS 3 1 rfl rfl (vp_in_nI (by omega) (by decide)) d_G_takeBack_6 (fun H locs hP hD hS => ?_)
  rw [show (nI j).toNatClampNeg = j from nI_clamp (by omega)] at hP hD
  rw [show vp_nar .boolean (nI 0) = nI 0 from by decide] at hP hD
  have hP : va_P D jw_cl [(g, .inr (2, [.ref b0, .ref b1, .ref b2, .int (nI (jc_ln C))])), (b0, .inl (cI, 68, .inl fo)), (b1, .inl (cI, 68, .inl fc)), (b2, .inl (cZ, 68, .inl (upd fu j (nI 0))))] H := hP
  have hD : va_D A [(g, .inr (2, [.ref b0, .ref b1, .ref b2, .int (nI (jc_ln C))])), (b0, .inl (cI, 68, .inl fo)), (b1, .inl (cI, 68, .inl fc)), (b2, .inl (cZ, 68, .inl (upd fu j (nI 0))))] := hD
  have hf3 : jt_rl fo fc (upd fu j (nI 0)) (jt_ud C j) := jt_rl_ud hf
  refine lv_aload_n hx hb d_G_takeBack_7 rfl (lv_at hl 0 rfl) ?_
  refine lv_iload_n hx hb d_G_takeBack_8 rfl (lv_at hl 1 rfl) ?_
  refine jw_rV (As := [.int (nI j)]) (rest := []) hx hb hml hown ht (m_G_inverse l D g b0 b1 b2 cI cZ fo fc (upd fu j (nI 0)) C (fun i hi => ⟨(hf i hi).1, (hf i hi).2.1⟩) H0 N0 c0 hC hN j hj hfl) (o_G_inverse) k_G_26 rfl rfl ⟨Nat.le_of_ble_eq_true rfl, Nat.le_of_ble_eq_true rfl⟩ (hP.sub [0, 1, 2, 3] rfl) (hK.sub [0, 1] rfl) (va_recv (q0 := 0) (ci := 2) hK hP rfl rfl) rfl hl.1 rfl (Nat.le_of_ble_eq_true rfl) d_G_takeBack_9 ⟨Nat.zero_le _, Nat.zero_le _⟩ ?_
  refine lv_istore_n (lv' := [(2, .int (nI (jt_po (jt_iv C j)))), (0, .ref g), (1, .int (nI j))]) hx hb d_G_takeBack_12 rfl hl (by decide) rfl (fun ls hl => ?_)
  refine lv_iload_n hx hb d_G_takeBack_13 rfl (lv_at hl 2 rfl) ?_
  refine lv_iconst (v := nI 1) hx hb d_G_takeBack_14 (by decide) ?_
  refine lv_iadd hx hb d_G_takeBack_15 ?_
  refine lv_topi (fun v1 ev1 => ?_)
  obtain rfl : v1 = nI (j + 1) := ev1.trans (nI_add _ _)
  refine lv_istore_n (lv' := [(3, .int (nI (j + 1))), (2, .int (nI (jt_po (jt_iv C j)))), (0, .ref g), (1, .int (nI j))]) hx hb d_G_takeBack_16 rfl hl (by decide) rfl (fun ls hl => ?_)
  refine jw_loopR (I := fun k ls => ∃ i, k = jc_ln C - i ∧ j + 1 ≤ i ∧ i ≤ jc_ln C ∧ lv_has ls 4 [(3, .int (nI i)), (2, .int (nI (jt_po (jt_ms (jc_lo C) (j + 1) (jt_iv C j) (i - (j + 1)))))), (0, .ref g), (1, .int (nI j))]) (jc_ln C - (j + 1)) ⟨j + 1, rfl, Nat.le_refl _, by omega, by rw [Nat.sub_self]; exact hl⟩ (fun k ls hI ih => ?_)
  obtain ⟨i, hk, hi1, hi2, hl⟩ := hI
  refine lv_iload_n hx hb d_G_takeBack_17 rfl (lv_at hl 0 rfl) ?_
  refine lv_aload_n hx hb d_G_takeBack_18 rfl (lv_at hl 2 rfl) ?_
  refine va_get (D := D) (ci := 2) (v := .int (nI (jc_ln C))) (C := jn_G) (T := jf_G) (N := 4) hx hb ht ji_G hown hK hP 0 rfl rfl 3 (by decide) (ht _ k_G_22) (fun _ h9 => h9) rfl d_G_takeBack_19 ?_
  refine lv_icmp_ge (tgt := 42) hx hb d_G_takeBack_22 (by decide) (fun h22 => ?_) (fun h22 => ?_)
  · skip
    have h22 := jw_ge (by omega) (by omega) h22
    refine lv_iload_n hx hb d_G_takeBack_42 rfl (lv_at hl 1 rfl) ?_
    have ei : i = jc_ln C := by omega
    exact W.iret (v := nI (jt_po (jt_ms (jc_lo C) (j + 1) (jt_iv C j) (i - (j + 1))))) hx hb hr (fun t9 ht9 hW9 => ⟨⟨nI (jt_po (jt_ms (jc_lo C) (j + 1) (jt_iv C j) (i - (j + 1)))), upd fu j (nI 0), rfl, ⟨by rw [show jt_bo C j = jt_ms (jc_lo C) (j + 1) (jt_iv C j) (i - (j + 1)) by unfold jt_bo; rw [← ei]], hf3⟩, by rw [ht9]; exact hP, hD⟩, hS.F ht9⟩) hS.2.2 d_G_takeBack_43
  · skip
    have h22 := jw_nge (by omega) (by omega) h22
    refine lv_iload_n hx hb d_G_takeBack_25 rfl (lv_at hl 1 rfl) ?_
    refine lv_aload_n hx hb d_G_takeBack_26 rfl (lv_at hl 2 rfl) ?_
    refine va_get (D := D) (ci := 2) (v := .ref b0) (C := jn_G) (T := jf_G) (N := 4) hx hb ht ji_G hown hK hP 0 rfl rfl 0 (by decide) (ht _ k_G_9) (fun _ h9 => h9) rfl d_G_takeBack_27 ?_
    refine lv_iload_n hx hb d_G_takeBack_30 rfl (lv_at hl 0 rfl) ?_
    refine va_iald hx hb hK hP 1 0 rfl rfl (vp_in_nI (by omega) (by decide)) d_G_takeBack_31 ?_
    rw [show (nI i).toNatClampNeg = i from nI_clamp (by omega)]
    rw [show fo i = nI (jt_po (jc_lo C i)) from (hf i (by omega)).1]
    refine jw_rS (As := [.int (nI (jt_po (jt_ms (jc_lo C) (j + 1) (jt_iv C j) (i - (j + 1))))), .int (nI (jt_po (jc_lo C i)))]) (rest := []) hx hb hml hown ht (m_O_moved l D (jt_ms (jc_lo C) (j + 1) (jt_iv C j) (i - (j + 1))) (jc_lo C i) (hbsm _ (by omega)) (hlsm i (by omega))) (o_O_moved) k_G_30 rfl rfl ⟨Nat.le_of_ble_eq_true rfl, Nat.le_of_ble_eq_true rfl⟩ (hP.sub [] rfl) (hK.sub [] rfl) rfl hl.1 rfl (Nat.le_of_ble_eq_true rfl) d_G_takeBack_32 ⟨Nat.zero_le _, Nat.zero_le _⟩ ?_
    refine lv_istore_n (lv' := [(2, .int (nI (jt_po (jt_mv (jt_ms (jc_lo C) (j + 1) (jt_iv C j) (i - (j + 1))) (jc_lo C i))))), (3, .int (nI i)), (0, .ref g), (1, .int (nI j))]) hx hb d_G_takeBack_35 rfl hl (by decide) rfl (fun ls hl => ?_)
    refine lv_iinc (v := nI (i + 1)) (lv' := [(3, .int (nI (i + 1))), (2, .int (nI (jt_po (jt_mv (jt_ms (jc_lo C) (j + 1) (jt_iv C j) (i - (j + 1))) (jc_lo C i))))), (0, .ref g), (1, .int (nI j))]) hx hb d_G_takeBack_36 hl (k := 1) rfl (show nI _ + Int32.ofInt 1 = nI _ from nI_add _ 1) (by decide) rfl (fun ls hl => ?_)
    refine lv_goto (tgt := 17) hx hb d_G_takeBack_39 (by decide) ?_
    exact ih _ ls (by omega) ⟨i + 1, rfl, by omega, by omega, by rw [show i + 1 - (j + 1) = (i - (j + 1)) + 1 by omega]; rw [show jt_ms (jc_lo C) (j + 1) (jt_iv C j) (i - (j + 1) + 1) = jt_mv (jt_ms (jc_lo C) (j + 1) (jt_iv C j) (i - (j + 1))) (jc_lo C i) by rw [jt_ms, show j + 1 + (i - (j + 1)) = i by omega]]; exact hl⟩
