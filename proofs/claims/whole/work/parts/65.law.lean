theorem jL_cmp0 (fo : Nat → Int64) {r q : Int32} (h : r = q) : lg_cmp (vp_updL fo 0 r.toInt64 0) q.toInt64 = 0 := by
  subst h
  have e1 : vp_updL fo 0 r.toInt64 0 = r.toInt64 := rfl
  rw [e1]
  simp [lg_cmp]
section JLV
variable {p : Program} {l : Launch} {e : Env} {R : Room} {s : State} {m : MethodId} {args : Array Value} {below : List Frame} {meth : Method} {c : Code} {H : Heap} {locs : List Loc} {cells slots : Nat} {Q : State → Prop}
variable {ls : Array Slot} {D : va_G} {x xm oo b L i : Nat} {xs : Nat → Int32} {f ad g : Nat → Nat} {cI cZ cG cC cJ : ClassId} {S : jt_S} {X : Nat → jt_X} {Y : jt_Y} {M : Nat → Nat → Int32} {P : jq_P} {tx : Nat → Int32} {si cd : Int32} {fo : Nat → Int64}
set_option maxHeartbeats 4000000 in
set_option maxRecDepth 100000 in
theorem wL_insert (hx : p.tables.exec = Jvm.exec) (hb : c.code = code) (hml : c.maxLocals = 7) (hown : s.vm.findClass jn_W = some m.cls) (ht : ∀ w ∈ jw_tbl, w.before args s = true) (hlf : l.flags = pinnedFlags ++ [noTraceFlag]) (hst : jT_st s) (hnc : jT_nc s) (hK : va_K D jw_cl ((cJ, .long) :: jL_ty cI cZ cG cC) s) (hR : 10 ≤ R.frames ∧ 340 ≤ R.locals) (hX : va_X b L xs s s.heap) (hbl : b < s.heap.size) (hL : L ≤ 2048) (hi4 : i + 4 ≤ L) (hI : jL_I (S, X, Y, M)) (hj : jr P S) (hP : va_P D jw_cl (((oo, .inl (cJ, 1, .inr (.inl fo))) :: jL_XW x f ad cI cZ cG cC (S, X, Y, M)) ++ jL_MW xm g cI cZ (P, tx, si, cd)) H) (hD : va_D (fun q => s.heap.size ≤ q) (((oo, .inl (cJ, 1, .inr (.inl fo))) :: jL_XW x f ad cI cZ cG cC (S, X, Y, M)) ++ jL_MW xm g cI cZ (P, tx, si, cd))) (hS : va_S (fun q => s.heap.size ≤ q) s.heap H locs) (hl : lv_has ls 7 [(0, .ref b), (1, .ref x), (2, .ref xm), (3, .ref oo), (4, .int (nI i))]) (hf : cells + 1 ≤ R.cells ∧ slots + 6 ≤ R.slots)
    (kk : ∀ (σ' : jL_T) (τ' : jL_U) (fo' : Nat → Int64) (H1 : Heap) (locs1 : List Loc) (ls1 : Array Slot), jL_I σ' → jr τ'.1 σ'.1 → va_P D jw_cl (((oo, .inl (cJ, 1, .inr (.inl fo'))) :: jL_XW x f ad cI cZ cG cC σ') ++ jL_MW xm g cI cZ τ') H1 → va_D (fun q => s.heap.size ≤ q) (((oo, .inl (cJ, 1, .inr (.inl fo'))) :: jL_XW x f ad cI cZ cG cC σ') ++ jL_MW xm g cI cZ τ') → va_S (fun q => s.heap.size ≤ q) s.heap H1 locs1 → lv_has ls1 7 [(0, .ref b), (1, .ref x), (2, .ref xm), (3, .ref oo), (4, .int (nI i))] → W p l e R s m args below meth c H1 locs1 (cells + 1) (slots + 6) Q (F0 m 789 ls1 [])) : W p l e R s m args below meth c H locs cells slots Q (F0 m 128 ls []) := by
  have hKx : va_K D jw_cl (jL_ty cI cZ cG cC) s := ⟨hK.1, fun k q h => hK.2 (k + 1) q h⟩
  have hKm : va_K D jw_cl [(cI, .int), (cZ, .boolean)] s := (hK.sub [1, 2] rfl)
  rcases pL_insert (l := l) (D := D) (x := x) (xm := xm) (f := f) (ad := ad) (g := g) (cI := cI) (cZ := cZ) (cG := cG) (cC := cC) (tx := tx) (si := si) (cd := cd) (oo := oo) (cJ := cJ) hlf hI hj (xs (i + 1)) (xs (i + 2)) (xs (i + 3)) with ⟨k, k1, k3, h1, h2⟩ | ⟨r, S', h1, h2⟩
  · skip
    refine lv_aload_n hx hb d_W_law_128 rfl (lv_at hl 1 rfl) ?_
    refine lv_aload_n hx hb d_W_law_129 rfl (lv_at hl 0 rfl) ?_
    refine lv_iload hx hb d_W_law_130 (lv_at hl 4 rfl) ?_
    refine lv_iconst (v := nI 1) hx hb d_W_law_132 (by decide) ?_
    refine lv_iadd hx hb d_W_law_133 ?_
    refine lv_topi (fun v1 ev1 => ?_)
    obtain rfl : v1 = nI (i + 1) := ev1.trans (nI_add _ _)
    refine va_sld hx hb hX hbl (Nat.not_le.mpr hbl) hS (vp_in_nI (n := i + 1) (by omega) (by omega)) d_W_law_134 ?_
    rw [show (nI (i + 1)).toNatClampNeg = i + 1 from nI_clamp (by omega)]
    refine lv_aload_n hx hb d_W_law_135 rfl (lv_at hl 0 rfl) ?_
    refine lv_iload hx hb d_W_law_136 (lv_at hl 4 rfl) ?_
    refine lv_iconst (v := nI 2) hx hb d_W_law_138 (by decide) ?_
    refine lv_iadd hx hb d_W_law_139 ?_
    refine lv_topi (fun v2 ev2 => ?_)
    obtain rfl : v2 = nI (i + 2) := ev2.trans (nI_add _ _)
    refine va_sld hx hb hX hbl (Nat.not_le.mpr hbl) hS (vp_in_nI (n := i + 2) (by omega) (by omega)) d_W_law_140 ?_
    rw [show (nI (i + 2)).toNatClampNeg = i + 2 from nI_clamp (by omega)]
    refine lv_aload_n hx hb d_W_law_141 rfl (lv_at hl 0 rfl) ?_
    refine lv_iload hx hb d_W_law_142 (lv_at hl 4 rfl) ?_
    refine lv_iconst (v := nI 3) hx hb d_W_law_144 (by decide) ?_
    refine lv_iadd hx hb d_W_law_145 ?_
    refine lv_topi (fun v3 ev3 => ?_)
    obtain rfl : v3 = nI (i + 3) := ev3.trans (nI_add _ _)
    refine va_sld hx hb hX hbl (Nat.not_le.mpr hbl) hS (vp_in_nI (n := i + 3) (by omega) (by omega)) d_W_law_146 ?_
    rw [show (nI (i + 3)).toNatClampNeg = i + 3 from nI_clamp (by omega)]
    refine lv_aload_n hx hb d_W_law_147 rfl (lv_at hl 3 rfl) ?_
    refine jL_cWT (As := [.ref x, .int (xs (i + 1)), .int (xs (i + 2)), .int (xs (i + 3)), .ref oo]) (rest := []) hx hb hml hown ht hst hnc h1 oW_insert k_W_36 ⟨by omega, by omega⟩ hP hS hKx rfl hl.1 rfl (Nat.le_of_ble_eq_true rfl) d_W_law_148 ⟨by omega, by omega⟩ (fun H locs hP hS => ?_)
    refine lv_istore (lv' := [(5, .int (nI k)), (0, .ref b), (1, .ref x), (2, .ref xm), (3, .ref oo), (4, .int (nI i))]) hx hb d_W_law_151 hl (by decide) rfl (fun ls hl => ?_)
    refine lv_aload_n hx hb d_W_law_153 rfl (lv_at hl 3 rfl) ?_
    refine lv_aload_n hx hb d_W_law_154 rfl (lv_at hl 1 rfl) ?_
    refine lv_iload hx hb d_W_law_155 (lv_at hl 5 rfl) ?_
    refine lv_iconst (v := nI 1) hx hb d_W_law_157 (by decide) ?_
    refine lv_iadd hx hb d_W_law_158 ?_
    refine lv_topi (fun v4 ev4 => ?_)
    obtain rfl : v4 = nI (i + 1) := ev4.trans (nI_add _ _)
    refine va_sld hx hb hX hbl (Nat.not_le.mpr hbl) hS (vp_in_nI (n := i + 1) (by omega) (by omega)) d_W_law_159 ?_
    rw [show (nI (i + 1)).toNatClampNeg = i + 1 from nI_clamp (by omega)]
    refine lv_aload_n hx hb d_W_law_160 rfl (lv_at hl 1 rfl) ?_
    refine lv_iload hx hb d_W_law_161 (lv_at hl 5 rfl) ?_
    refine lv_iconst (v := nI 2) hx hb d_W_law_163 (by decide) ?_
    refine lv_iadd hx hb d_W_law_164 ?_
    refine lv_topi (fun v5 ev5 => ?_)
    obtain rfl : v5 = nI (i + 2) := ev5.trans (nI_add _ _)
    refine va_sld hx hb hX hbl (Nat.not_le.mpr hbl) hS (vp_in_nI (n := i + 2) (by omega) (by omega)) d_W_law_165 ?_
    rw [show (nI (i + 2)).toNatClampNeg = i + 2 from nI_clamp (by omega)]
    refine lv_aload_n hx hb d_W_law_166 rfl (lv_at hl 1 rfl) ?_
    refine lv_iload hx hb d_W_law_167 (lv_at hl 5 rfl) ?_
    refine lv_iconst (v := nI 3) hx hb d_W_law_169 (by decide) ?_
    refine lv_iadd hx hb d_W_law_170 ?_
    refine lv_topi (fun v6 ev6 => ?_)
    obtain rfl : v6 = nI (i + 3) := ev6.trans (nI_add _ _)
    refine va_sld hx hb hX hbl (Nat.not_le.mpr hbl) hS (vp_in_nI (n := i + 3) (by omega) (by omega)) d_W_law_171 ?_
    rw [show (nI (i + 3)).toNatClampNeg = i + 3 from nI_clamp (by omega)]
    refine jL_cM (As := [.int (xs (i + 1)), .int (xs (i + 2)), .int (xs (i + 3))]) (rest := []) hx hb hml hown ht h2 o_M_insert k_W_41 rfl ⟨by omega, by omega⟩ hP hD hS (fun _ h => h) hKm rfl hl.1 rfl (Nat.le_of_ble_eq_true rfl) d_W_law_172 ⟨by omega, by omega⟩ (fun w9 τ' H locs h8 hP hD hS => ?_)
    obtain ⟨hj1, e8⟩ := h8
    obtain ⟨P', tx', si', cd'⟩ := τ'
    have e8 : cd' = nI k := e8
    subst e8
    refine lv_istore (lv' := [(6, .int w9), (5, .int (nI k)), (0, .ref b), (1, .ref x), (2, .ref xm), (3, .ref oo), (4, .int (nI i))]) hx hb d_W_law_175 hl (by decide) rfl (fun ls hl => ?_)
    refine lv_aload_n hx hb d_W_law_177 rfl (lv_at hl 4 rfl) ?_
    refine jL_cM (As := []) (rest := []) hx hb hml hown ht jL_thrown o_M_thrown k_W_42 rfl ⟨by omega, by omega⟩ hP hD hS (fun _ h => h) hKm rfl hl.1 rfl (Nat.le_of_ble_eq_true rfl) d_W_law_178 ⟨by omega, by omega⟩ (fun z9 τ2 H locs h7 hP hD hS => ?_)
    obtain ⟨e6, rfl⟩ := h7
    refine lv_iload hx hb d_W_law_181 (lv_at hl 1 rfl) ?_
    refine lv_icmp_eq (tgt := 188) hx hb d_W_law_183 (by decide) (fun _ => ?_) (fun h => absurd e6 h)
    refine lv_iload hx hb d_W_law_188 (lv_at hl 1 rfl) ?_
    refine lv_if_ne (tgt := 205) hx hb d_W_law_190 (by decide) (fun _ => ?_) (fun h => absurd h (nI_ne0 (by omega) (by omega)))
    refine lv_goto (tgt := 789) hx hb d_W_law_205 (by decide) ?_
    have hI1 := hI
    exact kk (S, X, Y, M) (P', tx', si', nI k) fo H locs ls hI1 hj1 hP hD hS (lv_sub hl [2, 3, 4, 5, 6] rfl)
  · skip
    refine lv_aload_n hx hb d_W_law_128 rfl (lv_at hl 1 rfl) ?_
    refine lv_aload_n hx hb d_W_law_129 rfl (lv_at hl 0 rfl) ?_
    refine lv_iload hx hb d_W_law_130 (lv_at hl 4 rfl) ?_
    refine lv_iconst (v := nI 1) hx hb d_W_law_132 (by decide) ?_
    refine lv_iadd hx hb d_W_law_133 ?_
    refine lv_topi (fun v7 ev7 => ?_)
    obtain rfl : v7 = nI (i + 1) := ev7.trans (nI_add _ _)
    refine va_sld hx hb hX hbl (Nat.not_le.mpr hbl) hS (vp_in_nI (n := i + 1) (by omega) (by omega)) d_W_law_134 ?_
    rw [show (nI (i + 1)).toNatClampNeg = i + 1 from nI_clamp (by omega)]
    refine lv_aload_n hx hb d_W_law_135 rfl (lv_at hl 0 rfl) ?_
    refine lv_iload hx hb d_W_law_136 (lv_at hl 4 rfl) ?_
    refine lv_iconst (v := nI 2) hx hb d_W_law_138 (by decide) ?_
    refine lv_iadd hx hb d_W_law_139 ?_
    refine lv_topi (fun v8 ev8 => ?_)
    obtain rfl : v8 = nI (i + 2) := ev8.trans (nI_add _ _)
    refine va_sld hx hb hX hbl (Nat.not_le.mpr hbl) hS (vp_in_nI (n := i + 2) (by omega) (by omega)) d_W_law_140 ?_
    rw [show (nI (i + 2)).toNatClampNeg = i + 2 from nI_clamp (by omega)]
    refine lv_aload_n hx hb d_W_law_141 rfl (lv_at hl 0 rfl) ?_
    refine lv_iload hx hb d_W_law_142 (lv_at hl 4 rfl) ?_
    refine lv_iconst (v := nI 3) hx hb d_W_law_144 (by decide) ?_
    refine lv_iadd hx hb d_W_law_145 ?_
    refine lv_topi (fun v9 ev9 => ?_)
    obtain rfl : v9 = nI (i + 3) := ev9.trans (nI_add _ _)
    refine va_sld hx hb hX hbl (Nat.not_le.mpr hbl) hS (vp_in_nI (n := i + 3) (by omega) (by omega)) d_W_law_146 ?_
    rw [show (nI (i + 3)).toNatClampNeg = i + 3 from nI_clamp (by omega)]
    refine lv_aload_n hx hb d_W_law_147 rfl (lv_at hl 3 rfl) ?_
    refine jL_cWS (As := [.ref x, .int (xs (i + 1)), .int (xs (i + 2)), .int (xs (i + 3)), .ref oo]) (rest := []) hx hb hml hown ht h1 oW_insert k_W_36 ⟨by omega, by omega⟩ hP hD hS (fun _ h => h) hK rfl hl.1 rfl (Nat.le_of_ble_eq_true rfl) d_W_law_148 ⟨by omega, by omega⟩ (fun v9 σ' H locs h9 hP hD hS => ?_)
    obtain ⟨e9, hI1, e1⟩ := h9
    refine lv_istore (lv' := [(5, .int (nI 0)), (0, .ref b), (1, .ref x), (2, .ref xm), (3, .ref oo), (4, .int (nI i))]) hx hb d_W_law_151 hl (by decide) rfl (fun ls hl => ?_)
    refine lv_aload_n hx hb d_W_law_153 rfl (lv_at hl 3 rfl) ?_
    refine lv_aload_n hx hb d_W_law_154 rfl (lv_at hl 1 rfl) ?_
    refine lv_iload hx hb d_W_law_155 (lv_at hl 5 rfl) ?_
    refine lv_iconst (v := nI 1) hx hb d_W_law_157 (by decide) ?_
    refine lv_iadd hx hb d_W_law_158 ?_
    refine lv_topi (fun v10 ev10 => ?_)
    obtain rfl : v10 = nI (i + 1) := ev10.trans (nI_add _ _)
    refine va_sld hx hb hX hbl (Nat.not_le.mpr hbl) hS (vp_in_nI (n := i + 1) (by omega) (by omega)) d_W_law_159 ?_
    rw [show (nI (i + 1)).toNatClampNeg = i + 1 from nI_clamp (by omega)]
    refine lv_aload_n hx hb d_W_law_160 rfl (lv_at hl 1 rfl) ?_
    refine lv_iload hx hb d_W_law_161 (lv_at hl 5 rfl) ?_
    refine lv_iconst (v := nI 2) hx hb d_W_law_163 (by decide) ?_
    refine lv_iadd hx hb d_W_law_164 ?_
    refine lv_topi (fun v11 ev11 => ?_)
    obtain rfl : v11 = nI (i + 2) := ev11.trans (nI_add _ _)
    refine va_sld hx hb hX hbl (Nat.not_le.mpr hbl) hS (vp_in_nI (n := i + 2) (by omega) (by omega)) d_W_law_165 ?_
    rw [show (nI (i + 2)).toNatClampNeg = i + 2 from nI_clamp (by omega)]
    refine lv_aload_n hx hb d_W_law_166 rfl (lv_at hl 1 rfl) ?_
    refine lv_iload hx hb d_W_law_167 (lv_at hl 5 rfl) ?_
    refine lv_iconst (v := nI 3) hx hb d_W_law_169 (by decide) ?_
    refine lv_iadd hx hb d_W_law_170 ?_
    refine lv_topi (fun v12 ev12 => ?_)
    obtain rfl : v12 = nI (i + 3) := ev12.trans (nI_add _ _)
    refine va_sld hx hb hX hbl (Nat.not_le.mpr hbl) hS (vp_in_nI (n := i + 3) (by omega) (by omega)) d_W_law_171 ?_
    rw [show (nI (i + 3)).toNatClampNeg = i + 3 from nI_clamp (by omega)]
    refine jL_cM (As := [.int (xs (i + 1)), .int (xs (i + 2)), .int (xs (i + 3))]) (rest := []) hx hb hml hown ht h2 o_M_insert k_W_41 rfl ⟨by omega, by omega⟩ hP hD hS (fun _ h => h) hKm rfl hl.1 rfl (Nat.le_of_ble_eq_true rfl) d_W_law_172 ⟨by omega, by omega⟩ (fun w9 τ' H locs h8 hP hD hS => ?_)
    obtain ⟨e7, h8, e8⟩ := h8
    have hj1 : jr τ'.1 σ'.1 := by rw [e1]; exact h8
    obtain ⟨P', tx', si', cd'⟩ := τ'
    have e8 : cd' = nI 0 := e8
    subst e8
    refine lv_istore (lv' := [(6, .int w9), (5, .int (nI 0)), (0, .ref b), (1, .ref x), (2, .ref xm), (3, .ref oo), (4, .int (nI i))]) hx hb d_W_law_175 hl (by decide) rfl (fun ls hl => ?_)
    refine lv_aload_n hx hb d_W_law_177 rfl (lv_at hl 4 rfl) ?_
    refine jL_cM (As := []) (rest := []) hx hb hml hown ht jL_thrown o_M_thrown k_W_42 rfl ⟨by omega, by omega⟩ hP hD hS (fun _ h => h) hKm rfl hl.1 rfl (Nat.le_of_ble_eq_true rfl) d_W_law_178 ⟨by omega, by omega⟩ (fun z9 τ2 H locs h7 hP hD hS => ?_)
    obtain ⟨e6, rfl⟩ := h7
    refine lv_iload hx hb d_W_law_181 (lv_at hl 1 rfl) ?_
    refine lv_icmp_eq (tgt := 188) hx hb d_W_law_183 (by decide) (fun _ => ?_) (fun h => absurd e6 h)
    refine lv_iload hx hb d_W_law_188 (lv_at hl 1 rfl) ?_
    refine lv_if_ne (tgt := 205) hx hb d_W_law_190 (by decide) (fun h => absurd nI_0 h) (fun _ => ?_)
    refine lv_aload_n hx hb d_W_law_193 rfl (lv_at hl 5 rfl) ?_
    refine lv_iconst (v := nI 0) hx hb d_W_law_194 (by decide) ?_
    refine va_lald hx hb hK hP 0 0 rfl rfl (vp_in_nI (by decide) (by decide)) d_W_law_195 ?_
    rw [show (nI 0).toNatClampNeg = 0 from nI_clamp (by decide)]
    refine lv_iload hx hb d_W_law_196 (lv_at hl 0 rfl) ?_
    refine lv_i2l hx hb d_W_law_198 rfl ?_
    refine W.lcmp hx hb d_W_law_199 ?_
    refine lv_if_eq (tgt := 205) hx hb d_W_law_200 (by decide) (fun _ => ?_) (fun h => absurd (jL_cmp0 _ (e9.trans e7.symm)) h)
    refine lv_goto (tgt := 789) hx hb d_W_law_205 (by decide) ?_
    exact W.widen (Nat.le_succ _) (Nat.le_add_right _ _) (kk σ' (P', tx', si', nI 0) (vp_updL fo 0 v9.toInt64) H locs ls hI1 hj1 hP hD hS (lv_sub hl [2, 3, 4, 5, 6] rfl))

set_option maxHeartbeats 4000000 in
set_option maxRecDepth 100000 in
theorem wL_erase (hx : p.tables.exec = Jvm.exec) (hb : c.code = code) (hml : c.maxLocals = 7) (hown : s.vm.findClass jn_W = some m.cls) (ht : ∀ w ∈ jw_tbl, w.before args s = true) (hlf : l.flags = pinnedFlags ++ [noTraceFlag]) (hst : jT_st s) (hnc : jT_nc s) (hK : va_K D jw_cl ((cJ, .long) :: jL_ty cI cZ cG cC) s) (hR : 10 ≤ R.frames ∧ 340 ≤ R.locals) (hX : va_X b L xs s s.heap) (hbl : b < s.heap.size) (hL : L ≤ 2048) (hi4 : i + 4 ≤ L) (hI : jL_I (S, X, Y, M)) (hj : jr P S) (hP : va_P D jw_cl (((oo, .inl (cJ, 1, .inr (.inl fo))) :: jL_XW x f ad cI cZ cG cC (S, X, Y, M)) ++ jL_MW xm g cI cZ (P, tx, si, cd)) H) (hD : va_D (fun q => s.heap.size ≤ q) (((oo, .inl (cJ, 1, .inr (.inl fo))) :: jL_XW x f ad cI cZ cG cC (S, X, Y, M)) ++ jL_MW xm g cI cZ (P, tx, si, cd))) (hS : va_S (fun q => s.heap.size ≤ q) s.heap H locs) (hl : lv_has ls 7 [(0, .ref b), (1, .ref x), (2, .ref xm), (3, .ref oo), (4, .int (nI i))]) (hf : cells + 1 ≤ R.cells ∧ slots + 6 ≤ R.slots)
    (kk : ∀ (σ' : jL_T) (τ' : jL_U) (fo' : Nat → Int64) (H1 : Heap) (locs1 : List Loc) (ls1 : Array Slot), jL_I σ' → jr τ'.1 σ'.1 → va_P D jw_cl (((oo, .inl (cJ, 1, .inr (.inl fo'))) :: jL_XW x f ad cI cZ cG cC σ') ++ jL_MW xm g cI cZ τ') H1 → va_D (fun q => s.heap.size ≤ q) (((oo, .inl (cJ, 1, .inr (.inl fo'))) :: jL_XW x f ad cI cZ cG cC σ') ++ jL_MW xm g cI cZ τ') → va_S (fun q => s.heap.size ≤ q) s.heap H1 locs1 → lv_has ls1 7 [(0, .ref b), (1, .ref x), (2, .ref xm), (3, .ref oo), (4, .int (nI i))] → W p l e R s m args below meth c H1 locs1 (cells + 1) (slots + 6) Q (F0 m 789 ls1 [])) : W p l e R s m args below meth c H locs cells slots Q (F0 m 208 ls []) := by
  have hKx : va_K D jw_cl (jL_ty cI cZ cG cC) s := ⟨hK.1, fun k q h => hK.2 (k + 1) q h⟩
  have hKm : va_K D jw_cl [(cI, .int), (cZ, .boolean)] s := (hK.sub [1, 2] rfl)
  rcases pL_erase (l := l) (D := D) (x := x) (xm := xm) (f := f) (ad := ad) (g := g) (cI := cI) (cZ := cZ) (cG := cG) (cC := cC) (tx := tx) (si := si) (cd := cd) (oo := oo) (cJ := cJ) hlf hI hj (xs (i + 1)) (xs (i + 2)) with ⟨k, k1, k3, h1, h2⟩ | ⟨r, S', h1, h2⟩
  · skip
    refine lv_aload_n hx hb d_W_law_208 rfl (lv_at hl 1 rfl) ?_
    refine lv_aload_n hx hb d_W_law_209 rfl (lv_at hl 0 rfl) ?_
    refine lv_iload hx hb d_W_law_210 (lv_at hl 4 rfl) ?_
    refine lv_iconst (v := nI 1) hx hb d_W_law_212 (by decide) ?_
    refine lv_iadd hx hb d_W_law_213 ?_
    refine lv_topi (fun v1 ev1 => ?_)
    obtain rfl : v1 = nI (i + 1) := ev1.trans (nI_add _ _)
    refine va_sld hx hb hX hbl (Nat.not_le.mpr hbl) hS (vp_in_nI (n := i + 1) (by omega) (by omega)) d_W_law_214 ?_
    rw [show (nI (i + 1)).toNatClampNeg = i + 1 from nI_clamp (by omega)]
    refine lv_aload_n hx hb d_W_law_215 rfl (lv_at hl 0 rfl) ?_
    refine lv_iload hx hb d_W_law_216 (lv_at hl 4 rfl) ?_
    refine lv_iconst (v := nI 2) hx hb d_W_law_218 (by decide) ?_
    refine lv_iadd hx hb d_W_law_219 ?_
    refine lv_topi (fun v2 ev2 => ?_)
    obtain rfl : v2 = nI (i + 2) := ev2.trans (nI_add _ _)
    refine va_sld hx hb hX hbl (Nat.not_le.mpr hbl) hS (vp_in_nI (n := i + 2) (by omega) (by omega)) d_W_law_220 ?_
    rw [show (nI (i + 2)).toNatClampNeg = i + 2 from nI_clamp (by omega)]
    refine lv_aload_n hx hb d_W_law_221 rfl (lv_at hl 3 rfl) ?_
    refine jL_cWT (As := [.ref x, .int (xs (i + 1)), .int (xs (i + 2)), .ref oo]) (rest := []) hx hb hml hown ht hst hnc h1 oW_erase k_W_46 ⟨by omega, by omega⟩ hP hS hKx rfl hl.1 rfl (Nat.le_of_ble_eq_true rfl) d_W_law_222 ⟨by omega, by omega⟩ (fun H locs hP hS => ?_)
    refine lv_istore (lv' := [(5, .int (nI k)), (0, .ref b), (1, .ref x), (2, .ref xm), (3, .ref oo), (4, .int (nI i))]) hx hb d_W_law_225 hl (by decide) rfl (fun ls hl => ?_)
    refine lv_aload_n hx hb d_W_law_227 rfl (lv_at hl 3 rfl) ?_
    refine lv_aload_n hx hb d_W_law_228 rfl (lv_at hl 1 rfl) ?_
    refine lv_iload hx hb d_W_law_229 (lv_at hl 5 rfl) ?_
    refine lv_iconst (v := nI 1) hx hb d_W_law_231 (by decide) ?_
    refine lv_iadd hx hb d_W_law_232 ?_
    refine lv_topi (fun v3 ev3 => ?_)
    obtain rfl : v3 = nI (i + 1) := ev3.trans (nI_add _ _)
    refine va_sld hx hb hX hbl (Nat.not_le.mpr hbl) hS (vp_in_nI (n := i + 1) (by omega) (by omega)) d_W_law_233 ?_
    rw [show (nI (i + 1)).toNatClampNeg = i + 1 from nI_clamp (by omega)]
    refine lv_aload_n hx hb d_W_law_234 rfl (lv_at hl 1 rfl) ?_
    refine lv_iload hx hb d_W_law_235 (lv_at hl 5 rfl) ?_
    refine lv_iconst (v := nI 2) hx hb d_W_law_237 (by decide) ?_
    refine lv_iadd hx hb d_W_law_238 ?_
    refine lv_topi (fun v4 ev4 => ?_)
    obtain rfl : v4 = nI (i + 2) := ev4.trans (nI_add _ _)
    refine va_sld hx hb hX hbl (Nat.not_le.mpr hbl) hS (vp_in_nI (n := i + 2) (by omega) (by omega)) d_W_law_239 ?_
    rw [show (nI (i + 2)).toNatClampNeg = i + 2 from nI_clamp (by omega)]
    refine jL_cM (As := [.int (xs (i + 1)), .int (xs (i + 2))]) (rest := []) hx hb hml hown ht h2 o_M_erase k_W_49 rfl ⟨by omega, by omega⟩ hP hD hS (fun _ h => h) hKm rfl hl.1 rfl (Nat.le_of_ble_eq_true rfl) d_W_law_240 ⟨by omega, by omega⟩ (fun w9 τ' H locs h8 hP hD hS => ?_)
    obtain ⟨hj1, e8⟩ := h8
    obtain ⟨P', tx', si', cd'⟩ := τ'
    have e8 : cd' = nI k := e8
    subst e8
    refine lv_istore (lv' := [(6, .int w9), (5, .int (nI k)), (0, .ref b), (1, .ref x), (2, .ref xm), (3, .ref oo), (4, .int (nI i))]) hx hb d_W_law_243 hl (by decide) rfl (fun ls hl => ?_)
    refine lv_aload_n hx hb d_W_law_245 rfl (lv_at hl 4 rfl) ?_
    refine jL_cM (As := []) (rest := []) hx hb hml hown ht jL_thrown o_M_thrown k_W_42 rfl ⟨by omega, by omega⟩ hP hD hS (fun _ h => h) hKm rfl hl.1 rfl (Nat.le_of_ble_eq_true rfl) d_W_law_246 ⟨by omega, by omega⟩ (fun z9 τ2 H locs h7 hP hD hS => ?_)
    obtain ⟨e6, rfl⟩ := h7
    refine lv_iload hx hb d_W_law_249 (lv_at hl 1 rfl) ?_
    refine lv_icmp_eq (tgt := 256) hx hb d_W_law_251 (by decide) (fun _ => ?_) (fun h => absurd e6 h)
    refine lv_iload hx hb d_W_law_256 (lv_at hl 1 rfl) ?_
    refine lv_if_ne (tgt := 273) hx hb d_W_law_258 (by decide) (fun _ => ?_) (fun h => absurd h (nI_ne0 (by omega) (by omega)))
    refine lv_goto (tgt := 789) hx hb d_W_law_273 (by decide) ?_
    have hI1 := hI
    exact kk (S, X, Y, M) (P', tx', si', nI k) fo H locs ls hI1 hj1 hP hD hS (lv_sub hl [2, 3, 4, 5, 6] rfl)
  · skip
    refine lv_aload_n hx hb d_W_law_208 rfl (lv_at hl 1 rfl) ?_
    refine lv_aload_n hx hb d_W_law_209 rfl (lv_at hl 0 rfl) ?_
    refine lv_iload hx hb d_W_law_210 (lv_at hl 4 rfl) ?_
    refine lv_iconst (v := nI 1) hx hb d_W_law_212 (by decide) ?_
    refine lv_iadd hx hb d_W_law_213 ?_
    refine lv_topi (fun v5 ev5 => ?_)
    obtain rfl : v5 = nI (i + 1) := ev5.trans (nI_add _ _)
    refine va_sld hx hb hX hbl (Nat.not_le.mpr hbl) hS (vp_in_nI (n := i + 1) (by omega) (by omega)) d_W_law_214 ?_
    rw [show (nI (i + 1)).toNatClampNeg = i + 1 from nI_clamp (by omega)]
    refine lv_aload_n hx hb d_W_law_215 rfl (lv_at hl 0 rfl) ?_
    refine lv_iload hx hb d_W_law_216 (lv_at hl 4 rfl) ?_
    refine lv_iconst (v := nI 2) hx hb d_W_law_218 (by decide) ?_
    refine lv_iadd hx hb d_W_law_219 ?_
    refine lv_topi (fun v6 ev6 => ?_)
    obtain rfl : v6 = nI (i + 2) := ev6.trans (nI_add _ _)
    refine va_sld hx hb hX hbl (Nat.not_le.mpr hbl) hS (vp_in_nI (n := i + 2) (by omega) (by omega)) d_W_law_220 ?_
    rw [show (nI (i + 2)).toNatClampNeg = i + 2 from nI_clamp (by omega)]
    refine lv_aload_n hx hb d_W_law_221 rfl (lv_at hl 3 rfl) ?_
    refine jL_cWS (As := [.ref x, .int (xs (i + 1)), .int (xs (i + 2)), .ref oo]) (rest := []) hx hb hml hown ht h1 oW_erase k_W_46 ⟨by omega, by omega⟩ hP hD hS (fun _ h => h) hK rfl hl.1 rfl (Nat.le_of_ble_eq_true rfl) d_W_law_222 ⟨by omega, by omega⟩ (fun v9 σ' H locs h9 hP hD hS => ?_)
    obtain ⟨e9, hI1, e1⟩ := h9
    refine lv_istore (lv' := [(5, .int (nI 0)), (0, .ref b), (1, .ref x), (2, .ref xm), (3, .ref oo), (4, .int (nI i))]) hx hb d_W_law_225 hl (by decide) rfl (fun ls hl => ?_)
    refine lv_aload_n hx hb d_W_law_227 rfl (lv_at hl 3 rfl) ?_
    refine lv_aload_n hx hb d_W_law_228 rfl (lv_at hl 1 rfl) ?_
    refine lv_iload hx hb d_W_law_229 (lv_at hl 5 rfl) ?_
    refine lv_iconst (v := nI 1) hx hb d_W_law_231 (by decide) ?_
    refine lv_iadd hx hb d_W_law_232 ?_
    refine lv_topi (fun v7 ev7 => ?_)
    obtain rfl : v7 = nI (i + 1) := ev7.trans (nI_add _ _)
    refine va_sld hx hb hX hbl (Nat.not_le.mpr hbl) hS (vp_in_nI (n := i + 1) (by omega) (by omega)) d_W_law_233 ?_
    rw [show (nI (i + 1)).toNatClampNeg = i + 1 from nI_clamp (by omega)]
    refine lv_aload_n hx hb d_W_law_234 rfl (lv_at hl 1 rfl) ?_
    refine lv_iload hx hb d_W_law_235 (lv_at hl 5 rfl) ?_
    refine lv_iconst (v := nI 2) hx hb d_W_law_237 (by decide) ?_
    refine lv_iadd hx hb d_W_law_238 ?_
    refine lv_topi (fun v8 ev8 => ?_)
    obtain rfl : v8 = nI (i + 2) := ev8.trans (nI_add _ _)
    refine va_sld hx hb hX hbl (Nat.not_le.mpr hbl) hS (vp_in_nI (n := i + 2) (by omega) (by omega)) d_W_law_239 ?_
    rw [show (nI (i + 2)).toNatClampNeg = i + 2 from nI_clamp (by omega)]
    refine jL_cM (As := [.int (xs (i + 1)), .int (xs (i + 2))]) (rest := []) hx hb hml hown ht h2 o_M_erase k_W_49 rfl ⟨by omega, by omega⟩ hP hD hS (fun _ h => h) hKm rfl hl.1 rfl (Nat.le_of_ble_eq_true rfl) d_W_law_240 ⟨by omega, by omega⟩ (fun w9 τ' H locs h8 hP hD hS => ?_)
    obtain ⟨e7, h8, e8⟩ := h8
    have hj1 : jr τ'.1 σ'.1 := by rw [e1]; exact h8
    obtain ⟨P', tx', si', cd'⟩ := τ'
    have e8 : cd' = nI 0 := e8
    subst e8
    refine lv_istore (lv' := [(6, .int w9), (5, .int (nI 0)), (0, .ref b), (1, .ref x), (2, .ref xm), (3, .ref oo), (4, .int (nI i))]) hx hb d_W_law_243 hl (by decide) rfl (fun ls hl => ?_)
    refine lv_aload_n hx hb d_W_law_245 rfl (lv_at hl 4 rfl) ?_
    refine jL_cM (As := []) (rest := []) hx hb hml hown ht jL_thrown o_M_thrown k_W_42 rfl ⟨by omega, by omega⟩ hP hD hS (fun _ h => h) hKm rfl hl.1 rfl (Nat.le_of_ble_eq_true rfl) d_W_law_246 ⟨by omega, by omega⟩ (fun z9 τ2 H locs h7 hP hD hS => ?_)
    obtain ⟨e6, rfl⟩ := h7
    refine lv_iload hx hb d_W_law_249 (lv_at hl 1 rfl) ?_
    refine lv_icmp_eq (tgt := 256) hx hb d_W_law_251 (by decide) (fun _ => ?_) (fun h => absurd e6 h)
    refine lv_iload hx hb d_W_law_256 (lv_at hl 1 rfl) ?_
    refine lv_if_ne (tgt := 273) hx hb d_W_law_258 (by decide) (fun h => absurd nI_0 h) (fun _ => ?_)
    refine lv_aload_n hx hb d_W_law_261 rfl (lv_at hl 5 rfl) ?_
    refine lv_iconst (v := nI 0) hx hb d_W_law_262 (by decide) ?_
    refine va_lald hx hb hK hP 0 0 rfl rfl (vp_in_nI (by decide) (by decide)) d_W_law_263 ?_
    rw [show (nI 0).toNatClampNeg = 0 from nI_clamp (by decide)]
    refine lv_iload hx hb d_W_law_264 (lv_at hl 0 rfl) ?_
    refine lv_i2l hx hb d_W_law_266 rfl ?_
    refine W.lcmp hx hb d_W_law_267 ?_
    refine lv_if_eq (tgt := 273) hx hb d_W_law_268 (by decide) (fun _ => ?_) (fun h => absurd (jL_cmp0 _ (e9.trans e7.symm)) h)
    refine lv_goto (tgt := 789) hx hb d_W_law_273 (by decide) ?_
    exact W.widen (Nat.le_succ _) (Nat.le_add_right _ _) (kk σ' (P', tx', si', nI 0) (vp_updL fo 0 v9.toInt64) H locs ls hI1 hj1 hP hD hS (lv_sub hl [2, 3, 4, 5, 6] rfl))

set_option maxHeartbeats 4000000 in
set_option maxRecDepth 100000 in
theorem wL_undo (hx : p.tables.exec = Jvm.exec) (hb : c.code = code) (hml : c.maxLocals = 7) (hown : s.vm.findClass jn_W = some m.cls) (ht : ∀ w ∈ jw_tbl, w.before args s = true) (hlf : l.flags = pinnedFlags ++ [noTraceFlag]) (hst : jT_st s) (hnc : jT_nc s) (hK : va_K D jw_cl ((cJ, .long) :: jL_ty cI cZ cG cC) s) (hR : 10 ≤ R.frames ∧ 340 ≤ R.locals) (hX : va_X b L xs s s.heap) (hbl : b < s.heap.size) (hL : L ≤ 2048) (hi4 : i + 4 ≤ L) (hI : jL_I (S, X, Y, M)) (hj : jr P S) (hP : va_P D jw_cl (((oo, .inl (cJ, 1, .inr (.inl fo))) :: jL_XW x f ad cI cZ cG cC (S, X, Y, M)) ++ jL_MW xm g cI cZ (P, tx, si, cd)) H) (hD : va_D (fun q => s.heap.size ≤ q) (((oo, .inl (cJ, 1, .inr (.inl fo))) :: jL_XW x f ad cI cZ cG cC (S, X, Y, M)) ++ jL_MW xm g cI cZ (P, tx, si, cd))) (hS : va_S (fun q => s.heap.size ≤ q) s.heap H locs) (hl : lv_has ls 7 [(0, .ref b), (1, .ref x), (2, .ref xm), (3, .ref oo), (4, .int (nI i))]) (hf : cells + 1 ≤ R.cells ∧ slots + 6 ≤ R.slots)
    (kk : ∀ (σ' : jL_T) (τ' : jL_U) (fo' : Nat → Int64) (H1 : Heap) (locs1 : List Loc) (ls1 : Array Slot), jL_I σ' → jr τ'.1 σ'.1 → va_P D jw_cl (((oo, .inl (cJ, 1, .inr (.inl fo'))) :: jL_XW x f ad cI cZ cG cC σ') ++ jL_MW xm g cI cZ τ') H1 → va_D (fun q => s.heap.size ≤ q) (((oo, .inl (cJ, 1, .inr (.inl fo'))) :: jL_XW x f ad cI cZ cG cC σ') ++ jL_MW xm g cI cZ τ') → va_S (fun q => s.heap.size ≤ q) s.heap H1 locs1 → lv_has ls1 7 [(0, .ref b), (1, .ref x), (2, .ref xm), (3, .ref oo), (4, .int (nI i))] → W p l e R s m args below meth c H1 locs1 (cells + 1) (slots + 6) Q (F0 m 789 ls1 [])) : W p l e R s m args below meth c H locs cells slots Q (F0 m 276 ls []) := by
  have hKx : va_K D jw_cl (jL_ty cI cZ cG cC) s := ⟨hK.1, fun k q h => hK.2 (k + 1) q h⟩
  have hKm : va_K D jw_cl [(cI, .int), (cZ, .boolean)] s := (hK.sub [1, 2] rfl)
  rcases pL_undo (l := l) (D := D) (x := x) (xm := xm) (f := f) (ad := ad) (g := g) (cI := cI) (cZ := cZ) (cG := cG) (cC := cC) (tx := tx) (si := si) (cd := cd) (oo := oo) (cJ := cJ) hlf hI hj (xs (i + 1)) with ⟨k, k1, k3, h1, h2⟩ | ⟨r, S', h1, h2⟩
  · skip
    refine lv_aload_n hx hb d_W_law_276 rfl (lv_at hl 1 rfl) ?_
    refine lv_aload_n hx hb d_W_law_277 rfl (lv_at hl 0 rfl) ?_
    refine lv_iload hx hb d_W_law_278 (lv_at hl 4 rfl) ?_
    refine lv_iconst (v := nI 1) hx hb d_W_law_280 (by decide) ?_
    refine lv_iadd hx hb d_W_law_281 ?_
    refine lv_topi (fun v1 ev1 => ?_)
    obtain rfl : v1 = nI (i + 1) := ev1.trans (nI_add _ _)
    refine va_sld hx hb hX hbl (Nat.not_le.mpr hbl) hS (vp_in_nI (n := i + 1) (by omega) (by omega)) d_W_law_282 ?_
    rw [show (nI (i + 1)).toNatClampNeg = i + 1 from nI_clamp (by omega)]
    refine lv_aload_n hx hb d_W_law_283 rfl (lv_at hl 3 rfl) ?_
    refine jL_cWT (As := [.ref x, .int (xs (i + 1)), .ref oo]) (rest := []) hx hb hml hown ht hst hnc h1 oW_undo k_W_50 ⟨by omega, by omega⟩ hP hS hKx rfl hl.1 rfl (Nat.le_of_ble_eq_true rfl) d_W_law_284 ⟨by omega, by omega⟩ (fun H locs hP hS => ?_)
    refine lv_istore (lv' := [(5, .int (nI k)), (0, .ref b), (1, .ref x), (2, .ref xm), (3, .ref oo), (4, .int (nI i))]) hx hb d_W_law_287 hl (by decide) rfl (fun ls hl => ?_)
    refine lv_aload_n hx hb d_W_law_289 rfl (lv_at hl 3 rfl) ?_
    refine lv_aload_n hx hb d_W_law_290 rfl (lv_at hl 1 rfl) ?_
    refine lv_iload hx hb d_W_law_291 (lv_at hl 5 rfl) ?_
    refine lv_iconst (v := nI 1) hx hb d_W_law_293 (by decide) ?_
    refine lv_iadd hx hb d_W_law_294 ?_
    refine lv_topi (fun v2 ev2 => ?_)
    obtain rfl : v2 = nI (i + 1) := ev2.trans (nI_add _ _)
    refine va_sld hx hb hX hbl (Nat.not_le.mpr hbl) hS (vp_in_nI (n := i + 1) (by omega) (by omega)) d_W_law_295 ?_
    rw [show (nI (i + 1)).toNatClampNeg = i + 1 from nI_clamp (by omega)]
    refine jL_cM (As := [.int (xs (i + 1))]) (rest := []) hx hb hml hown ht h2 o_M_undo k_W_53 rfl ⟨by omega, by omega⟩ hP hD hS (fun _ h => h) hKm rfl hl.1 rfl (Nat.le_of_ble_eq_true rfl) d_W_law_296 ⟨by omega, by omega⟩ (fun w9 τ' H locs h8 hP hD hS => ?_)
    obtain ⟨hj1, e8⟩ := h8
    obtain ⟨P', tx', si', cd'⟩ := τ'
    have e8 : cd' = nI k := e8
    subst e8
    refine lv_istore (lv' := [(6, .int w9), (5, .int (nI k)), (0, .ref b), (1, .ref x), (2, .ref xm), (3, .ref oo), (4, .int (nI i))]) hx hb d_W_law_299 hl (by decide) rfl (fun ls hl => ?_)
    refine lv_aload_n hx hb d_W_law_301 rfl (lv_at hl 4 rfl) ?_
    refine jL_cM (As := []) (rest := []) hx hb hml hown ht jL_thrown o_M_thrown k_W_42 rfl ⟨by omega, by omega⟩ hP hD hS (fun _ h => h) hKm rfl hl.1 rfl (Nat.le_of_ble_eq_true rfl) d_W_law_302 ⟨by omega, by omega⟩ (fun z9 τ2 H locs h7 hP hD hS => ?_)
    obtain ⟨e6, rfl⟩ := h7
    refine lv_iload hx hb d_W_law_305 (lv_at hl 1 rfl) ?_
    refine lv_icmp_eq (tgt := 312) hx hb d_W_law_307 (by decide) (fun _ => ?_) (fun h => absurd e6 h)
    refine lv_iload hx hb d_W_law_312 (lv_at hl 1 rfl) ?_
    refine lv_if_ne (tgt := 329) hx hb d_W_law_314 (by decide) (fun _ => ?_) (fun h => absurd h (nI_ne0 (by omega) (by omega)))
    refine lv_goto (tgt := 789) hx hb d_W_law_329 (by decide) ?_
    have hI1 := hI
    exact kk (S, X, Y, M) (P', tx', si', nI k) fo H locs ls hI1 hj1 hP hD hS (lv_sub hl [2, 3, 4, 5, 6] rfl)
  · skip
    refine lv_aload_n hx hb d_W_law_276 rfl (lv_at hl 1 rfl) ?_
    refine lv_aload_n hx hb d_W_law_277 rfl (lv_at hl 0 rfl) ?_
    refine lv_iload hx hb d_W_law_278 (lv_at hl 4 rfl) ?_
    refine lv_iconst (v := nI 1) hx hb d_W_law_280 (by decide) ?_
    refine lv_iadd hx hb d_W_law_281 ?_
    refine lv_topi (fun v3 ev3 => ?_)
    obtain rfl : v3 = nI (i + 1) := ev3.trans (nI_add _ _)
    refine va_sld hx hb hX hbl (Nat.not_le.mpr hbl) hS (vp_in_nI (n := i + 1) (by omega) (by omega)) d_W_law_282 ?_
    rw [show (nI (i + 1)).toNatClampNeg = i + 1 from nI_clamp (by omega)]
    refine lv_aload_n hx hb d_W_law_283 rfl (lv_at hl 3 rfl) ?_
    refine jL_cWS (As := [.ref x, .int (xs (i + 1)), .ref oo]) (rest := []) hx hb hml hown ht h1 oW_undo k_W_50 ⟨by omega, by omega⟩ hP hD hS (fun _ h => h) hK rfl hl.1 rfl (Nat.le_of_ble_eq_true rfl) d_W_law_284 ⟨by omega, by omega⟩ (fun v9 σ' H locs h9 hP hD hS => ?_)
    obtain ⟨e9, hI1, e1⟩ := h9
    refine lv_istore (lv' := [(5, .int (nI 0)), (0, .ref b), (1, .ref x), (2, .ref xm), (3, .ref oo), (4, .int (nI i))]) hx hb d_W_law_287 hl (by decide) rfl (fun ls hl => ?_)
    refine lv_aload_n hx hb d_W_law_289 rfl (lv_at hl 3 rfl) ?_
    refine lv_aload_n hx hb d_W_law_290 rfl (lv_at hl 1 rfl) ?_
    refine lv_iload hx hb d_W_law_291 (lv_at hl 5 rfl) ?_
    refine lv_iconst (v := nI 1) hx hb d_W_law_293 (by decide) ?_
    refine lv_iadd hx hb d_W_law_294 ?_
    refine lv_topi (fun v4 ev4 => ?_)
    obtain rfl : v4 = nI (i + 1) := ev4.trans (nI_add _ _)
    refine va_sld hx hb hX hbl (Nat.not_le.mpr hbl) hS (vp_in_nI (n := i + 1) (by omega) (by omega)) d_W_law_295 ?_
    rw [show (nI (i + 1)).toNatClampNeg = i + 1 from nI_clamp (by omega)]
    refine jL_cM (As := [.int (xs (i + 1))]) (rest := []) hx hb hml hown ht h2 o_M_undo k_W_53 rfl ⟨by omega, by omega⟩ hP hD hS (fun _ h => h) hKm rfl hl.1 rfl (Nat.le_of_ble_eq_true rfl) d_W_law_296 ⟨by omega, by omega⟩ (fun w9 τ' H locs h8 hP hD hS => ?_)
    obtain ⟨e7, h8, e8⟩ := h8
    have hj1 : jr τ'.1 σ'.1 := by rw [e1]; exact h8
    obtain ⟨P', tx', si', cd'⟩ := τ'
    have e8 : cd' = nI 0 := e8
    subst e8
    refine lv_istore (lv' := [(6, .int w9), (5, .int (nI 0)), (0, .ref b), (1, .ref x), (2, .ref xm), (3, .ref oo), (4, .int (nI i))]) hx hb d_W_law_299 hl (by decide) rfl (fun ls hl => ?_)
    refine lv_aload_n hx hb d_W_law_301 rfl (lv_at hl 4 rfl) ?_
    refine jL_cM (As := []) (rest := []) hx hb hml hown ht jL_thrown o_M_thrown k_W_42 rfl ⟨by omega, by omega⟩ hP hD hS (fun _ h => h) hKm rfl hl.1 rfl (Nat.le_of_ble_eq_true rfl) d_W_law_302 ⟨by omega, by omega⟩ (fun z9 τ2 H locs h7 hP hD hS => ?_)
    obtain ⟨e6, rfl⟩ := h7
    refine lv_iload hx hb d_W_law_305 (lv_at hl 1 rfl) ?_
    refine lv_icmp_eq (tgt := 312) hx hb d_W_law_307 (by decide) (fun _ => ?_) (fun h => absurd e6 h)
    refine lv_iload hx hb d_W_law_312 (lv_at hl 1 rfl) ?_
    refine lv_if_ne (tgt := 329) hx hb d_W_law_314 (by decide) (fun h => absurd nI_0 h) (fun _ => ?_)
    refine lv_aload_n hx hb d_W_law_317 rfl (lv_at hl 5 rfl) ?_
    refine lv_iconst (v := nI 0) hx hb d_W_law_318 (by decide) ?_
    refine va_lald hx hb hK hP 0 0 rfl rfl (vp_in_nI (by decide) (by decide)) d_W_law_319 ?_
    rw [show (nI 0).toNatClampNeg = 0 from nI_clamp (by decide)]
    refine lv_iload hx hb d_W_law_320 (lv_at hl 0 rfl) ?_
    refine lv_i2l hx hb d_W_law_322 rfl ?_
    refine W.lcmp hx hb d_W_law_323 ?_
    refine lv_if_eq (tgt := 329) hx hb d_W_law_324 (by decide) (fun _ => ?_) (fun h => absurd (jL_cmp0 _ (e9.trans e7.symm)) h)
    refine lv_goto (tgt := 789) hx hb d_W_law_329 (by decide) ?_
    exact W.widen (Nat.le_succ _) (Nat.le_add_right _ _) (kk σ' (P', tx', si', nI 0) (vp_updL fo 0 v9.toInt64) H locs ls hI1 hj1 hP hD hS (lv_sub hl [2, 3, 4, 5, 6] rfl))

set_option maxHeartbeats 4000000 in
set_option maxRecDepth 100000 in
theorem wL_length (hx : p.tables.exec = Jvm.exec) (hb : c.code = code) (hml : c.maxLocals = 7) (hown : s.vm.findClass jn_W = some m.cls) (ht : ∀ w ∈ jw_tbl, w.before args s = true) (hlf : l.flags = pinnedFlags ++ [noTraceFlag]) (hst : jT_st s) (hnc : jT_nc s) (hK : va_K D jw_cl ((cJ, .long) :: jL_ty cI cZ cG cC) s) (hR : 10 ≤ R.frames ∧ 340 ≤ R.locals) (hX : va_X b L xs s s.heap) (hbl : b < s.heap.size) (hL : L ≤ 2048) (hi4 : i + 4 ≤ L) (hI : jL_I (S, X, Y, M)) (hj : jr P S) (hP : va_P D jw_cl (((oo, .inl (cJ, 1, .inr (.inl fo))) :: jL_XW x f ad cI cZ cG cC (S, X, Y, M)) ++ jL_MW xm g cI cZ (P, tx, si, cd)) H) (hD : va_D (fun q => s.heap.size ≤ q) (((oo, .inl (cJ, 1, .inr (.inl fo))) :: jL_XW x f ad cI cZ cG cC (S, X, Y, M)) ++ jL_MW xm g cI cZ (P, tx, si, cd))) (hS : va_S (fun q => s.heap.size ≤ q) s.heap H locs) (hl : lv_has ls 7 [(0, .ref b), (1, .ref x), (2, .ref xm), (3, .ref oo), (4, .int (nI i))]) (hf : cells + 1 ≤ R.cells ∧ slots + 6 ≤ R.slots)
    (kk : ∀ (σ' : jL_T) (τ' : jL_U) (fo' : Nat → Int64) (H1 : Heap) (locs1 : List Loc) (ls1 : Array Slot), jL_I σ' → jr τ'.1 σ'.1 → va_P D jw_cl (((oo, .inl (cJ, 1, .inr (.inl fo'))) :: jL_XW x f ad cI cZ cG cC σ') ++ jL_MW xm g cI cZ τ') H1 → va_D (fun q => s.heap.size ≤ q) (((oo, .inl (cJ, 1, .inr (.inl fo'))) :: jL_XW x f ad cI cZ cG cC σ') ++ jL_MW xm g cI cZ τ') → va_S (fun q => s.heap.size ≤ q) s.heap H1 locs1 → lv_has ls1 7 [(0, .ref b), (1, .ref x), (2, .ref xm), (3, .ref oo), (4, .int (nI i))] → W p l e R s m args below meth c H1 locs1 (cells + 1) (slots + 6) Q (F0 m 789 ls1 [])) : W p l e R s m args below meth c H locs cells slots Q (F0 m 332 ls []) := by
  have hKx : va_K D jw_cl (jL_ty cI cZ cG cC) s := ⟨hK.1, fun k q h => hK.2 (k + 1) q h⟩
  have hKm : va_K D jw_cl [(cI, .int), (cZ, .boolean)] s := (hK.sub [1, 2] rfl)
  obtain ⟨r, S', h1, h2⟩ := pL_length (l := l) (D := D) (x := x) (xm := xm) (f := f) (ad := ad) (g := g) (cI := cI) (cZ := cZ) (cG := cG) (cC := cC) (tx := tx) (si := si) (cd := cd) hI hj (xs (i + 1))
  refine lv_aload_n hx hb d_W_law_332 rfl (lv_at hl 1 rfl) ?_
  refine lv_aload_n hx hb d_W_law_333 rfl (lv_at hl 0 rfl) ?_
  refine lv_iload hx hb d_W_law_334 (lv_at hl 4 rfl) ?_
  refine lv_iconst (v := nI 1) hx hb d_W_law_336 (by decide) ?_
  refine lv_iadd hx hb d_W_law_337 ?_
  refine lv_topi (fun v1 ev1 => ?_)
  obtain rfl : v1 = nI (i + 1) := ev1.trans (nI_add _ _)
  refine va_sld hx hb hX hbl (Nat.not_le.mpr hbl) hS (vp_in_nI (n := i + 1) (by omega) (by omega)) d_W_law_338 ?_
  rw [show (nI (i + 1)).toNatClampNeg = i + 1 from nI_clamp (by omega)]
  refine jL_cX (As := [.int (xs (i + 1))]) (rest := []) hx hb hml hown ht h1 o_J_length k_W_54 rfl ⟨by omega, by omega⟩ hP hD hS (fun _ h => h) hKx rfl hl.1 rfl (Nat.le_of_ble_eq_true rfl) d_W_law_339 ⟨by omega, by omega⟩ (fun v9 σ' H locs h9 hP hD hS => ?_)
  obtain ⟨e9, hI1, e1⟩ := h9
  refine lv_aload_n hx hb d_W_law_342 rfl (lv_at hl 2 rfl) ?_
  refine lv_aload_n hx hb d_W_law_343 rfl (lv_at hl 0 rfl) ?_
  refine lv_iload hx hb d_W_law_344 (lv_at hl 4 rfl) ?_
  refine lv_iconst (v := nI 1) hx hb d_W_law_346 (by decide) ?_
  refine lv_iadd hx hb d_W_law_347 ?_
  refine lv_topi (fun v3 ev3 => ?_)
  obtain rfl : v3 = nI (i + 1) := ev3.trans (nI_add _ _)
  refine va_sld hx hb hX hbl (Nat.not_le.mpr hbl) hS (vp_in_nI (n := i + 1) (by omega) (by omega)) d_W_law_348 ?_
  rw [show (nI (i + 1)).toNatClampNeg = i + 1 from nI_clamp (by omega)]
  refine jL_cM (As := [.int (xs (i + 1))]) (rest := [.int v9]) hx hb hml hown ht h2 o_M_length k_W_57 rfl ⟨by omega, by omega⟩ hP hD hS (fun _ h => h) hKm rfl hl.1 rfl (Nat.le_of_ble_eq_true rfl) d_W_law_349 ⟨by omega, by omega⟩ (fun w9 τ' H locs h8 hP hD hS => ?_)
  obtain ⟨e7, h8⟩ := h8
  have hj1 : jr τ'.1 σ'.1 := by rw [e1]; exact h8
  refine lv_icmp_eq (tgt := 789) hx hb d_W_law_352 (by decide) (fun _ => ?_) (fun h => absurd (e9.trans e7.symm) h)
  exact W.widen (Nat.le_succ _) (Nat.le_add_right _ _) (kk σ' τ' fo H locs ls hI1 hj1 hP hD hS (lv_sub hl [0, 1, 2, 3, 4] rfl))

set_option maxHeartbeats 4000000 in
set_option maxRecDepth 100000 in
theorem wL_character (hx : p.tables.exec = Jvm.exec) (hb : c.code = code) (hml : c.maxLocals = 7) (hown : s.vm.findClass jn_W = some m.cls) (ht : ∀ w ∈ jw_tbl, w.before args s = true) (hlf : l.flags = pinnedFlags ++ [noTraceFlag]) (hst : jT_st s) (hnc : jT_nc s) (hK : va_K D jw_cl ((cJ, .long) :: jL_ty cI cZ cG cC) s) (hR : 10 ≤ R.frames ∧ 340 ≤ R.locals) (hX : va_X b L xs s s.heap) (hbl : b < s.heap.size) (hL : L ≤ 2048) (hi4 : i + 4 ≤ L) (hI : jL_I (S, X, Y, M)) (hj : jr P S) (hP : va_P D jw_cl (((oo, .inl (cJ, 1, .inr (.inl fo))) :: jL_XW x f ad cI cZ cG cC (S, X, Y, M)) ++ jL_MW xm g cI cZ (P, tx, si, cd)) H) (hD : va_D (fun q => s.heap.size ≤ q) (((oo, .inl (cJ, 1, .inr (.inl fo))) :: jL_XW x f ad cI cZ cG cC (S, X, Y, M)) ++ jL_MW xm g cI cZ (P, tx, si, cd))) (hS : va_S (fun q => s.heap.size ≤ q) s.heap H locs) (hl : lv_has ls 7 [(0, .ref b), (1, .ref x), (2, .ref xm), (3, .ref oo), (4, .int (nI i))]) (hf : cells + 1 ≤ R.cells ∧ slots + 6 ≤ R.slots)
    (kk : ∀ (σ' : jL_T) (τ' : jL_U) (fo' : Nat → Int64) (H1 : Heap) (locs1 : List Loc) (ls1 : Array Slot), jL_I σ' → jr τ'.1 σ'.1 → va_P D jw_cl (((oo, .inl (cJ, 1, .inr (.inl fo'))) :: jL_XW x f ad cI cZ cG cC σ') ++ jL_MW xm g cI cZ τ') H1 → va_D (fun q => s.heap.size ≤ q) (((oo, .inl (cJ, 1, .inr (.inl fo'))) :: jL_XW x f ad cI cZ cG cC σ') ++ jL_MW xm g cI cZ τ') → va_S (fun q => s.heap.size ≤ q) s.heap H1 locs1 → lv_has ls1 7 [(0, .ref b), (1, .ref x), (2, .ref xm), (3, .ref oo), (4, .int (nI i))] → W p l e R s m args below meth c H1 locs1 (cells + 1) (slots + 6) Q (F0 m 789 ls1 [])) : W p l e R s m args below meth c H locs cells slots Q (F0 m 357 ls []) := by
  have hKx : va_K D jw_cl (jL_ty cI cZ cG cC) s := ⟨hK.1, fun k q h => hK.2 (k + 1) q h⟩
  have hKm : va_K D jw_cl [(cI, .int), (cZ, .boolean)] s := (hK.sub [1, 2] rfl)
  rcases pL_character (l := l) (D := D) (x := x) (xm := xm) (f := f) (ad := ad) (g := g) (cI := cI) (cZ := cZ) (cG := cG) (cC := cC) (tx := tx) (si := si) (cd := cd) (oo := oo) (cJ := cJ) hlf hI hj (xs (i + 1)) (xs (i + 2)) with ⟨k, k1, k3, h1, h2⟩ | ⟨r, S', h1, h2⟩
  · skip
    refine lv_aload_n hx hb d_W_law_357 rfl (lv_at hl 1 rfl) ?_
    refine lv_aload_n hx hb d_W_law_358 rfl (lv_at hl 0 rfl) ?_
    refine lv_iload hx hb d_W_law_359 (lv_at hl 4 rfl) ?_
    refine lv_iconst (v := nI 1) hx hb d_W_law_361 (by decide) ?_
    refine lv_iadd hx hb d_W_law_362 ?_
    refine lv_topi (fun v1 ev1 => ?_)
    obtain rfl : v1 = nI (i + 1) := ev1.trans (nI_add _ _)
    refine va_sld hx hb hX hbl (Nat.not_le.mpr hbl) hS (vp_in_nI (n := i + 1) (by omega) (by omega)) d_W_law_363 ?_
    rw [show (nI (i + 1)).toNatClampNeg = i + 1 from nI_clamp (by omega)]
    refine lv_aload_n hx hb d_W_law_364 rfl (lv_at hl 0 rfl) ?_
    refine lv_iload hx hb d_W_law_365 (lv_at hl 4 rfl) ?_
    refine lv_iconst (v := nI 2) hx hb d_W_law_367 (by decide) ?_
    refine lv_iadd hx hb d_W_law_368 ?_
    refine lv_topi (fun v2 ev2 => ?_)
    obtain rfl : v2 = nI (i + 2) := ev2.trans (nI_add _ _)
    refine va_sld hx hb hX hbl (Nat.not_le.mpr hbl) hS (vp_in_nI (n := i + 2) (by omega) (by omega)) d_W_law_369 ?_
    rw [show (nI (i + 2)).toNatClampNeg = i + 2 from nI_clamp (by omega)]
    refine lv_aload_n hx hb d_W_law_370 rfl (lv_at hl 3 rfl) ?_
    refine jL_cWT (As := [.ref x, .int (xs (i + 1)), .int (xs (i + 2)), .ref oo]) (rest := []) hx hb hml hown ht hst hnc h1 oW_character k_W_58 ⟨by omega, by omega⟩ hP hS hKx rfl hl.1 rfl (Nat.le_of_ble_eq_true rfl) d_W_law_371 ⟨by omega, by omega⟩ (fun H locs hP hS => ?_)
    refine lv_istore (lv' := [(5, .int (nI k)), (0, .ref b), (1, .ref x), (2, .ref xm), (3, .ref oo), (4, .int (nI i))]) hx hb d_W_law_374 hl (by decide) rfl (fun ls hl => ?_)
    refine lv_aload_n hx hb d_W_law_376 rfl (lv_at hl 3 rfl) ?_
    refine lv_aload_n hx hb d_W_law_377 rfl (lv_at hl 1 rfl) ?_
    refine lv_iload hx hb d_W_law_378 (lv_at hl 5 rfl) ?_
    refine lv_iconst (v := nI 1) hx hb d_W_law_380 (by decide) ?_
    refine lv_iadd hx hb d_W_law_381 ?_
    refine lv_topi (fun v3 ev3 => ?_)
    obtain rfl : v3 = nI (i + 1) := ev3.trans (nI_add _ _)
    refine va_sld hx hb hX hbl (Nat.not_le.mpr hbl) hS (vp_in_nI (n := i + 1) (by omega) (by omega)) d_W_law_382 ?_
    rw [show (nI (i + 1)).toNatClampNeg = i + 1 from nI_clamp (by omega)]
    refine lv_aload_n hx hb d_W_law_383 rfl (lv_at hl 1 rfl) ?_
    refine lv_iload hx hb d_W_law_384 (lv_at hl 5 rfl) ?_
    refine lv_iconst (v := nI 2) hx hb d_W_law_386 (by decide) ?_
    refine lv_iadd hx hb d_W_law_387 ?_
    refine lv_topi (fun v4 ev4 => ?_)
    obtain rfl : v4 = nI (i + 2) := ev4.trans (nI_add _ _)
    refine va_sld hx hb hX hbl (Nat.not_le.mpr hbl) hS (vp_in_nI (n := i + 2) (by omega) (by omega)) d_W_law_388 ?_
    rw [show (nI (i + 2)).toNatClampNeg = i + 2 from nI_clamp (by omega)]
    refine jL_cM (As := [.int (xs (i + 1)), .int (xs (i + 2))]) (rest := []) hx hb hml hown ht h2 o_M_character k_W_60 rfl ⟨by omega, by omega⟩ hP hD hS (fun _ h => h) hKm rfl hl.1 rfl (Nat.le_of_ble_eq_true rfl) d_W_law_389 ⟨by omega, by omega⟩ (fun w9 τ' H locs h8 hP hD hS => ?_)
    obtain ⟨hj1, e8⟩ := h8
    obtain ⟨P', tx', si', cd'⟩ := τ'
    have e8 : cd' = nI k := e8
    subst e8
    refine lv_istore (lv' := [(6, .int w9), (5, .int (nI k)), (0, .ref b), (1, .ref x), (2, .ref xm), (3, .ref oo), (4, .int (nI i))]) hx hb d_W_law_392 hl (by decide) rfl (fun ls hl => ?_)
    refine lv_aload_n hx hb d_W_law_394 rfl (lv_at hl 4 rfl) ?_
    refine jL_cM (As := []) (rest := []) hx hb hml hown ht jL_thrown o_M_thrown k_W_42 rfl ⟨by omega, by omega⟩ hP hD hS (fun _ h => h) hKm rfl hl.1 rfl (Nat.le_of_ble_eq_true rfl) d_W_law_395 ⟨by omega, by omega⟩ (fun z9 τ2 H locs h7 hP hD hS => ?_)
    obtain ⟨e6, rfl⟩ := h7
    refine lv_iload hx hb d_W_law_398 (lv_at hl 1 rfl) ?_
    refine lv_icmp_eq (tgt := 405) hx hb d_W_law_400 (by decide) (fun _ => ?_) (fun h => absurd e6 h)
    refine lv_iload hx hb d_W_law_405 (lv_at hl 1 rfl) ?_
    refine lv_if_ne (tgt := 422) hx hb d_W_law_407 (by decide) (fun _ => ?_) (fun h => absurd h (nI_ne0 (by omega) (by omega)))
    refine lv_goto (tgt := 789) hx hb d_W_law_422 (by decide) ?_
    have hI1 := hI
    exact kk (S, X, Y, M) (P', tx', si', nI k) fo H locs ls hI1 hj1 hP hD hS (lv_sub hl [2, 3, 4, 5, 6] rfl)
  · skip
    refine lv_aload_n hx hb d_W_law_357 rfl (lv_at hl 1 rfl) ?_
    refine lv_aload_n hx hb d_W_law_358 rfl (lv_at hl 0 rfl) ?_
    refine lv_iload hx hb d_W_law_359 (lv_at hl 4 rfl) ?_
    refine lv_iconst (v := nI 1) hx hb d_W_law_361 (by decide) ?_
    refine lv_iadd hx hb d_W_law_362 ?_
    refine lv_topi (fun v5 ev5 => ?_)
    obtain rfl : v5 = nI (i + 1) := ev5.trans (nI_add _ _)
    refine va_sld hx hb hX hbl (Nat.not_le.mpr hbl) hS (vp_in_nI (n := i + 1) (by omega) (by omega)) d_W_law_363 ?_
    rw [show (nI (i + 1)).toNatClampNeg = i + 1 from nI_clamp (by omega)]
    refine lv_aload_n hx hb d_W_law_364 rfl (lv_at hl 0 rfl) ?_
    refine lv_iload hx hb d_W_law_365 (lv_at hl 4 rfl) ?_
    refine lv_iconst (v := nI 2) hx hb d_W_law_367 (by decide) ?_
    refine lv_iadd hx hb d_W_law_368 ?_
    refine lv_topi (fun v6 ev6 => ?_)
    obtain rfl : v6 = nI (i + 2) := ev6.trans (nI_add _ _)
    refine va_sld hx hb hX hbl (Nat.not_le.mpr hbl) hS (vp_in_nI (n := i + 2) (by omega) (by omega)) d_W_law_369 ?_
    rw [show (nI (i + 2)).toNatClampNeg = i + 2 from nI_clamp (by omega)]
    refine lv_aload_n hx hb d_W_law_370 rfl (lv_at hl 3 rfl) ?_
    refine jL_cWS (As := [.ref x, .int (xs (i + 1)), .int (xs (i + 2)), .ref oo]) (rest := []) hx hb hml hown ht h1 oW_character k_W_58 ⟨by omega, by omega⟩ hP hD hS (fun _ h => h) hK rfl hl.1 rfl (Nat.le_of_ble_eq_true rfl) d_W_law_371 ⟨by omega, by omega⟩ (fun v9 σ' H locs h9 hP hD hS => ?_)
    obtain ⟨e9, hI1, e1⟩ := h9
    refine lv_istore (lv' := [(5, .int (nI 0)), (0, .ref b), (1, .ref x), (2, .ref xm), (3, .ref oo), (4, .int (nI i))]) hx hb d_W_law_374 hl (by decide) rfl (fun ls hl => ?_)
    refine lv_aload_n hx hb d_W_law_376 rfl (lv_at hl 3 rfl) ?_
    refine lv_aload_n hx hb d_W_law_377 rfl (lv_at hl 1 rfl) ?_
    refine lv_iload hx hb d_W_law_378 (lv_at hl 5 rfl) ?_
    refine lv_iconst (v := nI 1) hx hb d_W_law_380 (by decide) ?_
    refine lv_iadd hx hb d_W_law_381 ?_
    refine lv_topi (fun v7 ev7 => ?_)
    obtain rfl : v7 = nI (i + 1) := ev7.trans (nI_add _ _)
    refine va_sld hx hb hX hbl (Nat.not_le.mpr hbl) hS (vp_in_nI (n := i + 1) (by omega) (by omega)) d_W_law_382 ?_
    rw [show (nI (i + 1)).toNatClampNeg = i + 1 from nI_clamp (by omega)]
    refine lv_aload_n hx hb d_W_law_383 rfl (lv_at hl 1 rfl) ?_
    refine lv_iload hx hb d_W_law_384 (lv_at hl 5 rfl) ?_
    refine lv_iconst (v := nI 2) hx hb d_W_law_386 (by decide) ?_
    refine lv_iadd hx hb d_W_law_387 ?_
    refine lv_topi (fun v8 ev8 => ?_)
    obtain rfl : v8 = nI (i + 2) := ev8.trans (nI_add _ _)
    refine va_sld hx hb hX hbl (Nat.not_le.mpr hbl) hS (vp_in_nI (n := i + 2) (by omega) (by omega)) d_W_law_388 ?_
    rw [show (nI (i + 2)).toNatClampNeg = i + 2 from nI_clamp (by omega)]
    refine jL_cM (As := [.int (xs (i + 1)), .int (xs (i + 2))]) (rest := []) hx hb hml hown ht h2 o_M_character k_W_60 rfl ⟨by omega, by omega⟩ hP hD hS (fun _ h => h) hKm rfl hl.1 rfl (Nat.le_of_ble_eq_true rfl) d_W_law_389 ⟨by omega, by omega⟩ (fun w9 τ' H locs h8 hP hD hS => ?_)
    obtain ⟨e7, h8, e8⟩ := h8
    have hj1 : jr τ'.1 σ'.1 := by rw [e1]; exact h8
    obtain ⟨P', tx', si', cd'⟩ := τ'
    have e8 : cd' = nI 0 := e8
    subst e8
    refine lv_istore (lv' := [(6, .int w9), (5, .int (nI 0)), (0, .ref b), (1, .ref x), (2, .ref xm), (3, .ref oo), (4, .int (nI i))]) hx hb d_W_law_392 hl (by decide) rfl (fun ls hl => ?_)
    refine lv_aload_n hx hb d_W_law_394 rfl (lv_at hl 4 rfl) ?_
    refine jL_cM (As := []) (rest := []) hx hb hml hown ht jL_thrown o_M_thrown k_W_42 rfl ⟨by omega, by omega⟩ hP hD hS (fun _ h => h) hKm rfl hl.1 rfl (Nat.le_of_ble_eq_true rfl) d_W_law_395 ⟨by omega, by omega⟩ (fun z9 τ2 H locs h7 hP hD hS => ?_)
    obtain ⟨e6, rfl⟩ := h7
    refine lv_iload hx hb d_W_law_398 (lv_at hl 1 rfl) ?_
    refine lv_icmp_eq (tgt := 405) hx hb d_W_law_400 (by decide) (fun _ => ?_) (fun h => absurd e6 h)
    refine lv_iload hx hb d_W_law_405 (lv_at hl 1 rfl) ?_
    refine lv_if_ne (tgt := 422) hx hb d_W_law_407 (by decide) (fun h => absurd nI_0 h) (fun _ => ?_)
    refine lv_aload_n hx hb d_W_law_410 rfl (lv_at hl 5 rfl) ?_
    refine lv_iconst (v := nI 0) hx hb d_W_law_411 (by decide) ?_
    refine va_lald hx hb hK hP 0 0 rfl rfl (vp_in_nI (by decide) (by decide)) d_W_law_412 ?_
    rw [show (nI 0).toNatClampNeg = 0 from nI_clamp (by decide)]
    refine lv_iload hx hb d_W_law_413 (lv_at hl 0 rfl) ?_
    refine lv_i2l hx hb d_W_law_415 rfl ?_
    refine W.lcmp hx hb d_W_law_416 ?_
    refine lv_if_eq (tgt := 422) hx hb d_W_law_417 (by decide) (fun _ => ?_) (fun h => absurd (jL_cmp0 _ (e9.trans e7.symm)) h)
    refine lv_goto (tgt := 789) hx hb d_W_law_422 (by decide) ?_
    exact W.widen (Nat.le_succ _) (Nat.le_add_right _ _) (kk σ' (P', tx', si', nI 0) (vp_updL fo 0 v9.toInt64) H locs ls hI1 hj1 hP hD hS (lv_sub hl [2, 3, 4, 5, 6] rfl))

set_option maxHeartbeats 4000000 in
set_option maxRecDepth 100000 in
theorem wL_revision (hx : p.tables.exec = Jvm.exec) (hb : c.code = code) (hml : c.maxLocals = 7) (hown : s.vm.findClass jn_W = some m.cls) (ht : ∀ w ∈ jw_tbl, w.before args s = true) (hlf : l.flags = pinnedFlags ++ [noTraceFlag]) (hst : jT_st s) (hnc : jT_nc s) (hK : va_K D jw_cl ((cJ, .long) :: jL_ty cI cZ cG cC) s) (hR : 10 ≤ R.frames ∧ 340 ≤ R.locals) (hX : va_X b L xs s s.heap) (hbl : b < s.heap.size) (hL : L ≤ 2048) (hi4 : i + 4 ≤ L) (hI : jL_I (S, X, Y, M)) (hj : jr P S) (hP : va_P D jw_cl (((oo, .inl (cJ, 1, .inr (.inl fo))) :: jL_XW x f ad cI cZ cG cC (S, X, Y, M)) ++ jL_MW xm g cI cZ (P, tx, si, cd)) H) (hD : va_D (fun q => s.heap.size ≤ q) (((oo, .inl (cJ, 1, .inr (.inl fo))) :: jL_XW x f ad cI cZ cG cC (S, X, Y, M)) ++ jL_MW xm g cI cZ (P, tx, si, cd))) (hS : va_S (fun q => s.heap.size ≤ q) s.heap H locs) (hl : lv_has ls 7 [(0, .ref b), (1, .ref x), (2, .ref xm), (3, .ref oo), (4, .int (nI i))]) (hf : cells + 1 ≤ R.cells ∧ slots + 6 ≤ R.slots)
    (kk : ∀ (σ' : jL_T) (τ' : jL_U) (fo' : Nat → Int64) (H1 : Heap) (locs1 : List Loc) (ls1 : Array Slot), jL_I σ' → jr τ'.1 σ'.1 → va_P D jw_cl (((oo, .inl (cJ, 1, .inr (.inl fo'))) :: jL_XW x f ad cI cZ cG cC σ') ++ jL_MW xm g cI cZ τ') H1 → va_D (fun q => s.heap.size ≤ q) (((oo, .inl (cJ, 1, .inr (.inl fo'))) :: jL_XW x f ad cI cZ cG cC σ') ++ jL_MW xm g cI cZ τ') → va_S (fun q => s.heap.size ≤ q) s.heap H1 locs1 → lv_has ls1 7 [(0, .ref b), (1, .ref x), (2, .ref xm), (3, .ref oo), (4, .int (nI i))] → W p l e R s m args below meth c H1 locs1 (cells + 1) (slots + 6) Q (F0 m 789 ls1 [])) : W p l e R s m args below meth c H locs cells slots Q (F0 m 425 ls []) := by
  have hKx : va_K D jw_cl (jL_ty cI cZ cG cC) s := ⟨hK.1, fun k q h => hK.2 (k + 1) q h⟩
  have hKm : va_K D jw_cl [(cI, .int), (cZ, .boolean)] s := (hK.sub [1, 2] rfl)
  obtain ⟨r, S', h1, h2⟩ := pL_revision (l := l) (D := D) (x := x) (xm := xm) (f := f) (ad := ad) (g := g) (cI := cI) (cZ := cZ) (cG := cG) (cC := cC) (tx := tx) (si := si) (cd := cd) hI hj (xs (i + 1))
  refine lv_aload_n hx hb d_W_law_425 rfl (lv_at hl 1 rfl) ?_
  refine lv_aload_n hx hb d_W_law_426 rfl (lv_at hl 0 rfl) ?_
  refine lv_iload hx hb d_W_law_427 (lv_at hl 4 rfl) ?_
  refine lv_iconst (v := nI 1) hx hb d_W_law_429 (by decide) ?_
  refine lv_iadd hx hb d_W_law_430 ?_
  refine lv_topi (fun v1 ev1 => ?_)
  obtain rfl : v1 = nI (i + 1) := ev1.trans (nI_add _ _)
  refine va_sld hx hb hX hbl (Nat.not_le.mpr hbl) hS (vp_in_nI (n := i + 1) (by omega) (by omega)) d_W_law_431 ?_
  rw [show (nI (i + 1)).toNatClampNeg = i + 1 from nI_clamp (by omega)]
  refine jL_cX (As := [.int (xs (i + 1))]) (rest := []) hx hb hml hown ht h1 o_J_revision k_W_61 rfl ⟨by omega, by omega⟩ hP hD hS (fun _ h => h) hKx rfl hl.1 rfl (Nat.le_of_ble_eq_true rfl) d_W_law_432 ⟨by omega, by omega⟩ (fun v9 σ' H locs h9 hP hD hS => ?_)
  obtain ⟨e9, hI1, e1⟩ := h9
  refine lv_aload_n hx hb d_W_law_435 rfl (lv_at hl 2 rfl) ?_
  refine lv_aload_n hx hb d_W_law_436 rfl (lv_at hl 0 rfl) ?_
  refine lv_iload hx hb d_W_law_437 (lv_at hl 4 rfl) ?_
  refine lv_iconst (v := nI 1) hx hb d_W_law_439 (by decide) ?_
  refine lv_iadd hx hb d_W_law_440 ?_
  refine lv_topi (fun v3 ev3 => ?_)
  obtain rfl : v3 = nI (i + 1) := ev3.trans (nI_add _ _)
  refine va_sld hx hb hX hbl (Nat.not_le.mpr hbl) hS (vp_in_nI (n := i + 1) (by omega) (by omega)) d_W_law_441 ?_
  rw [show (nI (i + 1)).toNatClampNeg = i + 1 from nI_clamp (by omega)]
  refine jL_cM (As := [.int (xs (i + 1))]) (rest := [.int v9]) hx hb hml hown ht h2 o_M_revision k_W_64 rfl ⟨by omega, by omega⟩ hP hD hS (fun _ h => h) hKm rfl hl.1 rfl (Nat.le_of_ble_eq_true rfl) d_W_law_442 ⟨by omega, by omega⟩ (fun w9 τ' H locs h8 hP hD hS => ?_)
  obtain ⟨e7, h8⟩ := h8
  have hj1 : jr τ'.1 σ'.1 := by rw [e1]; exact h8
  refine lv_icmp_eq (tgt := 789) hx hb d_W_law_445 (by decide) (fun _ => ?_) (fun h => absurd (e9.trans e7.symm) h)
  exact W.widen (Nat.le_succ _) (Nat.le_add_right _ _) (kk σ' τ' fo H locs ls hI1 hj1 hP hD hS (lv_sub hl [0, 1, 2, 3, 4] rfl))

set_option maxHeartbeats 4000000 in
set_option maxRecDepth 100000 in
theorem wL_pending (hx : p.tables.exec = Jvm.exec) (hb : c.code = code) (hml : c.maxLocals = 7) (hown : s.vm.findClass jn_W = some m.cls) (ht : ∀ w ∈ jw_tbl, w.before args s = true) (hlf : l.flags = pinnedFlags ++ [noTraceFlag]) (hst : jT_st s) (hnc : jT_nc s) (hK : va_K D jw_cl ((cJ, .long) :: jL_ty cI cZ cG cC) s) (hR : 10 ≤ R.frames ∧ 340 ≤ R.locals) (hX : va_X b L xs s s.heap) (hbl : b < s.heap.size) (hL : L ≤ 2048) (hi4 : i + 4 ≤ L) (hI : jL_I (S, X, Y, M)) (hj : jr P S) (hP : va_P D jw_cl (((oo, .inl (cJ, 1, .inr (.inl fo))) :: jL_XW x f ad cI cZ cG cC (S, X, Y, M)) ++ jL_MW xm g cI cZ (P, tx, si, cd)) H) (hD : va_D (fun q => s.heap.size ≤ q) (((oo, .inl (cJ, 1, .inr (.inl fo))) :: jL_XW x f ad cI cZ cG cC (S, X, Y, M)) ++ jL_MW xm g cI cZ (P, tx, si, cd))) (hS : va_S (fun q => s.heap.size ≤ q) s.heap H locs) (hl : lv_has ls 7 [(0, .ref b), (1, .ref x), (2, .ref xm), (3, .ref oo), (4, .int (nI i))]) (hf : cells + 1 ≤ R.cells ∧ slots + 6 ≤ R.slots)
    (kk : ∀ (σ' : jL_T) (τ' : jL_U) (fo' : Nat → Int64) (H1 : Heap) (locs1 : List Loc) (ls1 : Array Slot), jL_I σ' → jr τ'.1 σ'.1 → va_P D jw_cl (((oo, .inl (cJ, 1, .inr (.inl fo'))) :: jL_XW x f ad cI cZ cG cC σ') ++ jL_MW xm g cI cZ τ') H1 → va_D (fun q => s.heap.size ≤ q) (((oo, .inl (cJ, 1, .inr (.inl fo'))) :: jL_XW x f ad cI cZ cG cC σ') ++ jL_MW xm g cI cZ τ') → va_S (fun q => s.heap.size ≤ q) s.heap H1 locs1 → lv_has ls1 7 [(0, .ref b), (1, .ref x), (2, .ref xm), (3, .ref oo), (4, .int (nI i))] → W p l e R s m args below meth c H1 locs1 (cells + 1) (slots + 6) Q (F0 m 789 ls1 [])) : W p l e R s m args below meth c H locs cells slots Q (F0 m 450 ls []) := by
  have hKx : va_K D jw_cl (jL_ty cI cZ cG cC) s := ⟨hK.1, fun k q h => hK.2 (k + 1) q h⟩
  have hKm : va_K D jw_cl [(cI, .int), (cZ, .boolean)] s := (hK.sub [1, 2] rfl)
  obtain ⟨r, S', h1, h2⟩ := pL_pending (l := l) (D := D) (x := x) (xm := xm) (f := f) (ad := ad) (g := g) (cI := cI) (cZ := cZ) (cG := cG) (cC := cC) (tx := tx) (si := si) (cd := cd) hI hj (xs (i + 1))
  refine lv_aload_n hx hb d_W_law_450 rfl (lv_at hl 1 rfl) ?_
  refine lv_aload_n hx hb d_W_law_451 rfl (lv_at hl 0 rfl) ?_
  refine lv_iload hx hb d_W_law_452 (lv_at hl 4 rfl) ?_
  refine lv_iconst (v := nI 1) hx hb d_W_law_454 (by decide) ?_
  refine lv_iadd hx hb d_W_law_455 ?_
  refine lv_topi (fun v1 ev1 => ?_)
  obtain rfl : v1 = nI (i + 1) := ev1.trans (nI_add _ _)
  refine va_sld hx hb hX hbl (Nat.not_le.mpr hbl) hS (vp_in_nI (n := i + 1) (by omega) (by omega)) d_W_law_456 ?_
  rw [show (nI (i + 1)).toNatClampNeg = i + 1 from nI_clamp (by omega)]
  refine jL_cX (As := [.int (xs (i + 1))]) (rest := []) hx hb hml hown ht h1 o_J_pending k_W_65 rfl ⟨by omega, by omega⟩ hP hD hS (fun _ h => h) hKx rfl hl.1 rfl (Nat.le_of_ble_eq_true rfl) d_W_law_457 ⟨by omega, by omega⟩ (fun v9 σ' H locs h9 hP hD hS => ?_)
  obtain ⟨e9, hI1, e1⟩ := h9
  refine lv_aload_n hx hb d_W_law_460 rfl (lv_at hl 2 rfl) ?_
  refine lv_aload_n hx hb d_W_law_461 rfl (lv_at hl 0 rfl) ?_
  refine lv_iload hx hb d_W_law_462 (lv_at hl 4 rfl) ?_
  refine lv_iconst (v := nI 1) hx hb d_W_law_464 (by decide) ?_
  refine lv_iadd hx hb d_W_law_465 ?_
  refine lv_topi (fun v3 ev3 => ?_)
  obtain rfl : v3 = nI (i + 1) := ev3.trans (nI_add _ _)
  refine va_sld hx hb hX hbl (Nat.not_le.mpr hbl) hS (vp_in_nI (n := i + 1) (by omega) (by omega)) d_W_law_466 ?_
  rw [show (nI (i + 1)).toNatClampNeg = i + 1 from nI_clamp (by omega)]
  refine jL_cM (As := [.int (xs (i + 1))]) (rest := [.int v9]) hx hb hml hown ht h2 o_M_pending k_W_68 rfl ⟨by omega, by omega⟩ hP hD hS (fun _ h => h) hKm rfl hl.1 rfl (Nat.le_of_ble_eq_true rfl) d_W_law_467 ⟨by omega, by omega⟩ (fun w9 τ' H locs h8 hP hD hS => ?_)
  obtain ⟨e7, h8⟩ := h8
  have hj1 : jr τ'.1 σ'.1 := by rw [e1]; exact h8
  refine lv_icmp_eq (tgt := 789) hx hb d_W_law_470 (by decide) (fun _ => ?_) (fun h => absurd (e9.trans e7.symm) h)
  exact W.widen (Nat.le_succ _) (Nat.le_add_right _ _) (kk σ' τ' fo H locs ls hI1 hj1 hP hD hS (lv_sub hl [0, 1, 2, 3, 4] rfl))

set_option maxHeartbeats 4000000 in
set_option maxRecDepth 100000 in
theorem wL_op (hx : p.tables.exec = Jvm.exec) (hb : c.code = code) (hml : c.maxLocals = 7) (hown : s.vm.findClass jn_W = some m.cls) (ht : ∀ w ∈ jw_tbl, w.before args s = true) (hlf : l.flags = pinnedFlags ++ [noTraceFlag]) (hst : jT_st s) (hnc : jT_nc s) (hK : va_K D jw_cl ((cJ, .long) :: jL_ty cI cZ cG cC) s) (hR : 10 ≤ R.frames ∧ 340 ≤ R.locals) (hX : va_X b L xs s s.heap) (hbl : b < s.heap.size) (hL : L ≤ 2048) (hi4 : i + 4 ≤ L) (hI : jL_I (S, X, Y, M)) (hj : jr P S) (hP : va_P D jw_cl (((oo, .inl (cJ, 1, .inr (.inl fo))) :: jL_XW x f ad cI cZ cG cC (S, X, Y, M)) ++ jL_MW xm g cI cZ (P, tx, si, cd)) H) (hD : va_D (fun q => s.heap.size ≤ q) (((oo, .inl (cJ, 1, .inr (.inl fo))) :: jL_XW x f ad cI cZ cG cC (S, X, Y, M)) ++ jL_MW xm g cI cZ (P, tx, si, cd))) (hS : va_S (fun q => s.heap.size ≤ q) s.heap H locs) (hl : lv_has ls 7 [(0, .ref b), (1, .ref x), (2, .ref xm), (3, .ref oo), (4, .int (nI i))]) (hf : cells + 1 ≤ R.cells ∧ slots + 6 ≤ R.slots)
    (kk : ∀ (σ' : jL_T) (τ' : jL_U) (fo' : Nat → Int64) (H1 : Heap) (locs1 : List Loc) (ls1 : Array Slot), jL_I σ' → jr τ'.1 σ'.1 → va_P D jw_cl (((oo, .inl (cJ, 1, .inr (.inl fo'))) :: jL_XW x f ad cI cZ cG cC σ') ++ jL_MW xm g cI cZ τ') H1 → va_D (fun q => s.heap.size ≤ q) (((oo, .inl (cJ, 1, .inr (.inl fo'))) :: jL_XW x f ad cI cZ cG cC σ') ++ jL_MW xm g cI cZ τ') → va_S (fun q => s.heap.size ≤ q) s.heap H1 locs1 → lv_has ls1 7 [(0, .ref b), (1, .ref x), (2, .ref xm), (3, .ref oo), (4, .int (nI i))] → W p l e R s m args below meth c H1 locs1 (cells + 1) (slots + 6) Q (F0 m 789 ls1 [])) : W p l e R s m args below meth c H locs cells slots Q (F0 m 475 ls []) := by
  have hKx : va_K D jw_cl (jL_ty cI cZ cG cC) s := ⟨hK.1, fun k q h => hK.2 (k + 1) q h⟩
  have hKm : va_K D jw_cl [(cI, .int), (cZ, .boolean)] s := (hK.sub [1, 2] rfl)
  obtain ⟨r, S', h1, h2⟩ := pL_op (l := l) (D := D) (x := x) (xm := xm) (f := f) (ad := ad) (g := g) (cI := cI) (cZ := cZ) (cG := cG) (cC := cC) (tx := tx) (si := si) (cd := cd) hI hj (xs (i + 1)) (xs (i + 2))
  refine lv_aload_n hx hb d_W_law_475 rfl (lv_at hl 1 rfl) ?_
  refine lv_aload_n hx hb d_W_law_476 rfl (lv_at hl 0 rfl) ?_
  refine lv_iload hx hb d_W_law_477 (lv_at hl 4 rfl) ?_
  refine lv_iconst (v := nI 1) hx hb d_W_law_479 (by decide) ?_
  refine lv_iadd hx hb d_W_law_480 ?_
  refine lv_topi (fun v1 ev1 => ?_)
  obtain rfl : v1 = nI (i + 1) := ev1.trans (nI_add _ _)
  refine va_sld hx hb hX hbl (Nat.not_le.mpr hbl) hS (vp_in_nI (n := i + 1) (by omega) (by omega)) d_W_law_481 ?_
  rw [show (nI (i + 1)).toNatClampNeg = i + 1 from nI_clamp (by omega)]
  refine lv_aload_n hx hb d_W_law_482 rfl (lv_at hl 0 rfl) ?_
  refine lv_iload hx hb d_W_law_483 (lv_at hl 4 rfl) ?_
  refine lv_iconst (v := nI 2) hx hb d_W_law_485 (by decide) ?_
  refine lv_iadd hx hb d_W_law_486 ?_
  refine lv_topi (fun v2 ev2 => ?_)
  obtain rfl : v2 = nI (i + 2) := ev2.trans (nI_add _ _)
  refine va_sld hx hb hX hbl (Nat.not_le.mpr hbl) hS (vp_in_nI (n := i + 2) (by omega) (by omega)) d_W_law_487 ?_
  rw [show (nI (i + 2)).toNatClampNeg = i + 2 from nI_clamp (by omega)]
  refine jL_cX (As := [.int (xs (i + 1)), .int (xs (i + 2))]) (rest := []) hx hb hml hown ht h1 o_J_op k_W_69 rfl ⟨by omega, by omega⟩ hP hD hS (fun _ h => h) hKx rfl hl.1 rfl (Nat.le_of_ble_eq_true rfl) d_W_law_488 ⟨by omega, by omega⟩ (fun v9 σ' H locs h9 hP hD hS => ?_)
  obtain ⟨e9, hI1, e1⟩ := h9
  refine lv_aload_n hx hb d_W_law_491 rfl (lv_at hl 2 rfl) ?_
  refine lv_aload_n hx hb d_W_law_492 rfl (lv_at hl 0 rfl) ?_
  refine lv_iload hx hb d_W_law_493 (lv_at hl 4 rfl) ?_
  refine lv_iconst (v := nI 1) hx hb d_W_law_495 (by decide) ?_
  refine lv_iadd hx hb d_W_law_496 ?_
  refine lv_topi (fun v4 ev4 => ?_)
  obtain rfl : v4 = nI (i + 1) := ev4.trans (nI_add _ _)
  refine va_sld hx hb hX hbl (Nat.not_le.mpr hbl) hS (vp_in_nI (n := i + 1) (by omega) (by omega)) d_W_law_497 ?_
  rw [show (nI (i + 1)).toNatClampNeg = i + 1 from nI_clamp (by omega)]
  refine lv_aload_n hx hb d_W_law_498 rfl (lv_at hl 0 rfl) ?_
  refine lv_iload hx hb d_W_law_499 (lv_at hl 4 rfl) ?_
  refine lv_iconst (v := nI 2) hx hb d_W_law_501 (by decide) ?_
  refine lv_iadd hx hb d_W_law_502 ?_
  refine lv_topi (fun v5 ev5 => ?_)
  obtain rfl : v5 = nI (i + 2) := ev5.trans (nI_add _ _)
  refine va_sld hx hb hX hbl (Nat.not_le.mpr hbl) hS (vp_in_nI (n := i + 2) (by omega) (by omega)) d_W_law_503 ?_
  rw [show (nI (i + 2)).toNatClampNeg = i + 2 from nI_clamp (by omega)]
  refine jL_cM (As := [.int (xs (i + 1)), .int (xs (i + 2))]) (rest := [.int v9]) hx hb hml hown ht h2 o_M_op k_W_72 rfl ⟨by omega, by omega⟩ hP hD hS (fun _ h => h) hKm rfl hl.1 rfl (Nat.le_of_ble_eq_true rfl) d_W_law_504 ⟨by omega, by omega⟩ (fun w9 τ' H locs h8 hP hD hS => ?_)
  obtain ⟨e7, h8⟩ := h8
  have hj1 : jr τ'.1 σ'.1 := by rw [e1]; exact h8
  refine lv_icmp_eq (tgt := 789) hx hb d_W_law_507 (by decide) (fun _ => ?_) (fun h => absurd (e9.trans e7.symm) h)
  exact W.widen (Nat.le_succ _) (Nat.le_add_right _ _) (kk σ' τ' fo H locs ls hI1 hj1 hP hD hS (lv_sub hl [0, 1, 2, 3, 4] rfl))

set_option maxHeartbeats 4000000 in
set_option maxRecDepth 100000 in
theorem wL_waiting (hx : p.tables.exec = Jvm.exec) (hb : c.code = code) (hml : c.maxLocals = 7) (hown : s.vm.findClass jn_W = some m.cls) (ht : ∀ w ∈ jw_tbl, w.before args s = true) (hlf : l.flags = pinnedFlags ++ [noTraceFlag]) (hst : jT_st s) (hnc : jT_nc s) (hK : va_K D jw_cl ((cJ, .long) :: jL_ty cI cZ cG cC) s) (hR : 10 ≤ R.frames ∧ 340 ≤ R.locals) (hX : va_X b L xs s s.heap) (hbl : b < s.heap.size) (hL : L ≤ 2048) (hi4 : i + 4 ≤ L) (hI : jL_I (S, X, Y, M)) (hj : jr P S) (hP : va_P D jw_cl (((oo, .inl (cJ, 1, .inr (.inl fo))) :: jL_XW x f ad cI cZ cG cC (S, X, Y, M)) ++ jL_MW xm g cI cZ (P, tx, si, cd)) H) (hD : va_D (fun q => s.heap.size ≤ q) (((oo, .inl (cJ, 1, .inr (.inl fo))) :: jL_XW x f ad cI cZ cG cC (S, X, Y, M)) ++ jL_MW xm g cI cZ (P, tx, si, cd))) (hS : va_S (fun q => s.heap.size ≤ q) s.heap H locs) (hl : lv_has ls 7 [(0, .ref b), (1, .ref x), (2, .ref xm), (3, .ref oo), (4, .int (nI i))]) (hf : cells + 1 ≤ R.cells ∧ slots + 6 ≤ R.slots)
    (kk : ∀ (σ' : jL_T) (τ' : jL_U) (fo' : Nat → Int64) (H1 : Heap) (locs1 : List Loc) (ls1 : Array Slot), jL_I σ' → jr τ'.1 σ'.1 → va_P D jw_cl (((oo, .inl (cJ, 1, .inr (.inl fo'))) :: jL_XW x f ad cI cZ cG cC σ') ++ jL_MW xm g cI cZ τ') H1 → va_D (fun q => s.heap.size ≤ q) (((oo, .inl (cJ, 1, .inr (.inl fo'))) :: jL_XW x f ad cI cZ cG cC σ') ++ jL_MW xm g cI cZ τ') → va_S (fun q => s.heap.size ≤ q) s.heap H1 locs1 → lv_has ls1 7 [(0, .ref b), (1, .ref x), (2, .ref xm), (3, .ref oo), (4, .int (nI i))] → W p l e R s m args below meth c H1 locs1 (cells + 1) (slots + 6) Q (F0 m 789 ls1 [])) : W p l e R s m args below meth c H locs cells slots Q (F0 m 512 ls []) := by
  have hKx : va_K D jw_cl (jL_ty cI cZ cG cC) s := ⟨hK.1, fun k q h => hK.2 (k + 1) q h⟩
  have hKm : va_K D jw_cl [(cI, .int), (cZ, .boolean)] s := (hK.sub [1, 2] rfl)
  obtain ⟨r, S', h1, h2⟩ := pL_waiting (l := l) (D := D) (x := x) (xm := xm) (f := f) (ad := ad) (g := g) (cI := cI) (cZ := cZ) (cG := cG) (cC := cC) (tx := tx) (si := si) (cd := cd) hI hj 
  refine lv_aload_n hx hb d_W_law_512 rfl (lv_at hl 1 rfl) ?_
  refine jL_cX (As := []) (rest := []) hx hb hml hown ht h1 o_J_waiting k_W_73 rfl ⟨by omega, by omega⟩ hP hD hS (fun _ h => h) hKx rfl hl.1 rfl (Nat.le_of_ble_eq_true rfl) d_W_law_513 ⟨by omega, by omega⟩ (fun v9 σ' H locs h9 hP hD hS => ?_)
  obtain ⟨e9, hI1, e1⟩ := h9
  refine lv_aload_n hx hb d_W_law_516 rfl (lv_at hl 2 rfl) ?_
  refine jL_cM (As := []) (rest := [.int v9]) hx hb hml hown ht h2 o_M_waiting k_W_76 rfl ⟨by omega, by omega⟩ hP hD hS (fun _ h => h) hKm rfl hl.1 rfl (Nat.le_of_ble_eq_true rfl) d_W_law_517 ⟨by omega, by omega⟩ (fun w9 τ' H locs h8 hP hD hS => ?_)
  obtain ⟨e7, h8⟩ := h8
  have hj1 : jr τ'.1 σ'.1 := by rw [e1]; exact h8
  refine lv_icmp_eq (tgt := 789) hx hb d_W_law_520 (by decide) (fun _ => ?_) (fun h => absurd (e9.trans e7.symm) h)
  exact W.widen (Nat.le_succ _) (Nat.le_add_right _ _) (kk σ' τ' fo H locs ls hI1 hj1 hP hD hS (lv_sub hl [0, 1, 2, 3, 4] rfl))

set_option maxHeartbeats 4000000 in
set_option maxRecDepth 100000 in
theorem wL_message (hx : p.tables.exec = Jvm.exec) (hb : c.code = code) (hml : c.maxLocals = 7) (hown : s.vm.findClass jn_W = some m.cls) (ht : ∀ w ∈ jw_tbl, w.before args s = true) (hlf : l.flags = pinnedFlags ++ [noTraceFlag]) (hst : jT_st s) (hnc : jT_nc s) (hK : va_K D jw_cl ((cJ, .long) :: jL_ty cI cZ cG cC) s) (hR : 10 ≤ R.frames ∧ 340 ≤ R.locals) (hX : va_X b L xs s s.heap) (hbl : b < s.heap.size) (hL : L ≤ 2048) (hi4 : i + 4 ≤ L) (hI : jL_I (S, X, Y, M)) (hj : jr P S) (hP : va_P D jw_cl (((oo, .inl (cJ, 1, .inr (.inl fo))) :: jL_XW x f ad cI cZ cG cC (S, X, Y, M)) ++ jL_MW xm g cI cZ (P, tx, si, cd)) H) (hD : va_D (fun q => s.heap.size ≤ q) (((oo, .inl (cJ, 1, .inr (.inl fo))) :: jL_XW x f ad cI cZ cG cC (S, X, Y, M)) ++ jL_MW xm g cI cZ (P, tx, si, cd))) (hS : va_S (fun q => s.heap.size ≤ q) s.heap H locs) (hl : lv_has ls 7 [(0, .ref b), (1, .ref x), (2, .ref xm), (3, .ref oo), (4, .int (nI i))]) (hf : cells + 1 ≤ R.cells ∧ slots + 6 ≤ R.slots)
    (kk : ∀ (σ' : jL_T) (τ' : jL_U) (fo' : Nat → Int64) (H1 : Heap) (locs1 : List Loc) (ls1 : Array Slot), jL_I σ' → jr τ'.1 σ'.1 → va_P D jw_cl (((oo, .inl (cJ, 1, .inr (.inl fo'))) :: jL_XW x f ad cI cZ cG cC σ') ++ jL_MW xm g cI cZ τ') H1 → va_D (fun q => s.heap.size ≤ q) (((oo, .inl (cJ, 1, .inr (.inl fo'))) :: jL_XW x f ad cI cZ cG cC σ') ++ jL_MW xm g cI cZ τ') → va_S (fun q => s.heap.size ≤ q) s.heap H1 locs1 → lv_has ls1 7 [(0, .ref b), (1, .ref x), (2, .ref xm), (3, .ref oo), (4, .int (nI i))] → W p l e R s m args below meth c H1 locs1 (cells + 1) (slots + 6) Q (F0 m 789 ls1 [])) : W p l e R s m args below meth c H locs cells slots Q (F0 m 525 ls []) := by
  have hKx : va_K D jw_cl (jL_ty cI cZ cG cC) s := ⟨hK.1, fun k q h => hK.2 (k + 1) q h⟩
  have hKm : va_K D jw_cl [(cI, .int), (cZ, .boolean)] s := (hK.sub [1, 2] rfl)
  obtain ⟨r, S', h1, h2⟩ := pL_message (l := l) (D := D) (x := x) (xm := xm) (f := f) (ad := ad) (g := g) (cI := cI) (cZ := cZ) (cG := cG) (cC := cC) (tx := tx) (si := si) (cd := cd) hI hj (xs (i + 1)) (xs (i + 2))
  refine lv_aload_n hx hb d_W_law_525 rfl (lv_at hl 1 rfl) ?_
  refine lv_aload_n hx hb d_W_law_526 rfl (lv_at hl 0 rfl) ?_
  refine lv_iload hx hb d_W_law_527 (lv_at hl 4 rfl) ?_
  refine lv_iconst (v := nI 1) hx hb d_W_law_529 (by decide) ?_
  refine lv_iadd hx hb d_W_law_530 ?_
  refine lv_topi (fun v1 ev1 => ?_)
  obtain rfl : v1 = nI (i + 1) := ev1.trans (nI_add _ _)
  refine va_sld hx hb hX hbl (Nat.not_le.mpr hbl) hS (vp_in_nI (n := i + 1) (by omega) (by omega)) d_W_law_531 ?_
  rw [show (nI (i + 1)).toNatClampNeg = i + 1 from nI_clamp (by omega)]
  refine lv_aload_n hx hb d_W_law_532 rfl (lv_at hl 0 rfl) ?_
  refine lv_iload hx hb d_W_law_533 (lv_at hl 4 rfl) ?_
  refine lv_iconst (v := nI 2) hx hb d_W_law_535 (by decide) ?_
  refine lv_iadd hx hb d_W_law_536 ?_
  refine lv_topi (fun v2 ev2 => ?_)
  obtain rfl : v2 = nI (i + 2) := ev2.trans (nI_add _ _)
  refine va_sld hx hb hX hbl (Nat.not_le.mpr hbl) hS (vp_in_nI (n := i + 2) (by omega) (by omega)) d_W_law_537 ?_
  rw [show (nI (i + 2)).toNatClampNeg = i + 2 from nI_clamp (by omega)]
  refine jL_cX (As := [.int (xs (i + 1)), .int (xs (i + 2))]) (rest := []) hx hb hml hown ht h1 o_J_message k_W_77 rfl ⟨by omega, by omega⟩ hP hD hS (fun _ h => h) hKx rfl hl.1 rfl (Nat.le_of_ble_eq_true rfl) d_W_law_538 ⟨by omega, by omega⟩ (fun v9 σ' H locs h9 hP hD hS => ?_)
  obtain ⟨e9, hI1, e1⟩ := h9
  refine lv_aload_n hx hb d_W_law_541 rfl (lv_at hl 2 rfl) ?_
  refine lv_aload_n hx hb d_W_law_542 rfl (lv_at hl 0 rfl) ?_
  refine lv_iload hx hb d_W_law_543 (lv_at hl 4 rfl) ?_
  refine lv_iconst (v := nI 1) hx hb d_W_law_545 (by decide) ?_
  refine lv_iadd hx hb d_W_law_546 ?_
  refine lv_topi (fun v4 ev4 => ?_)
  obtain rfl : v4 = nI (i + 1) := ev4.trans (nI_add _ _)
  refine va_sld hx hb hX hbl (Nat.not_le.mpr hbl) hS (vp_in_nI (n := i + 1) (by omega) (by omega)) d_W_law_547 ?_
  rw [show (nI (i + 1)).toNatClampNeg = i + 1 from nI_clamp (by omega)]
  refine lv_aload_n hx hb d_W_law_548 rfl (lv_at hl 0 rfl) ?_
  refine lv_iload hx hb d_W_law_549 (lv_at hl 4 rfl) ?_
  refine lv_iconst (v := nI 2) hx hb d_W_law_551 (by decide) ?_
  refine lv_iadd hx hb d_W_law_552 ?_
  refine lv_topi (fun v5 ev5 => ?_)
  obtain rfl : v5 = nI (i + 2) := ev5.trans (nI_add _ _)
  refine va_sld hx hb hX hbl (Nat.not_le.mpr hbl) hS (vp_in_nI (n := i + 2) (by omega) (by omega)) d_W_law_553 ?_
  rw [show (nI (i + 2)).toNatClampNeg = i + 2 from nI_clamp (by omega)]
  refine jL_cM (As := [.int (xs (i + 1)), .int (xs (i + 2))]) (rest := [.int v9]) hx hb hml hown ht h2 o_M_message k_W_80 rfl ⟨by omega, by omega⟩ hP hD hS (fun _ h => h) hKm rfl hl.1 rfl (Nat.le_of_ble_eq_true rfl) d_W_law_554 ⟨by omega, by omega⟩ (fun w9 τ' H locs h8 hP hD hS => ?_)
  obtain ⟨e7, h8⟩ := h8
  have hj1 : jr τ'.1 σ'.1 := by rw [e1]; exact h8
  refine lv_icmp_eq (tgt := 789) hx hb d_W_law_557 (by decide) (fun _ => ?_) (fun h => absurd (e9.trans e7.symm) h)
  exact W.widen (Nat.le_succ _) (Nat.le_add_right _ _) (kk σ' τ' fo H locs ls hI1 hj1 hP hD hS (lv_sub hl [0, 1, 2, 3, 4] rfl))

set_option maxHeartbeats 4000000 in
set_option maxRecDepth 100000 in
theorem wL_deliver (hx : p.tables.exec = Jvm.exec) (hb : c.code = code) (hml : c.maxLocals = 7) (hown : s.vm.findClass jn_W = some m.cls) (ht : ∀ w ∈ jw_tbl, w.before args s = true) (hlf : l.flags = pinnedFlags ++ [noTraceFlag]) (hst : jT_st s) (hnc : jT_nc s) (hK : va_K D jw_cl ((cJ, .long) :: jL_ty cI cZ cG cC) s) (hR : 10 ≤ R.frames ∧ 340 ≤ R.locals) (hX : va_X b L xs s s.heap) (hbl : b < s.heap.size) (hL : L ≤ 2048) (hi4 : i + 4 ≤ L) (hI : jL_I (S, X, Y, M)) (hj : jr P S) (hP : va_P D jw_cl (((oo, .inl (cJ, 1, .inr (.inl fo))) :: jL_XW x f ad cI cZ cG cC (S, X, Y, M)) ++ jL_MW xm g cI cZ (P, tx, si, cd)) H) (hD : va_D (fun q => s.heap.size ≤ q) (((oo, .inl (cJ, 1, .inr (.inl fo))) :: jL_XW x f ad cI cZ cG cC (S, X, Y, M)) ++ jL_MW xm g cI cZ (P, tx, si, cd))) (hS : va_S (fun q => s.heap.size ≤ q) s.heap H locs) (hl : lv_has ls 7 [(0, .ref b), (1, .ref x), (2, .ref xm), (3, .ref oo), (4, .int (nI i))]) (hf : cells + 1 ≤ R.cells ∧ slots + 6 ≤ R.slots)
    (kk : ∀ (σ' : jL_T) (τ' : jL_U) (fo' : Nat → Int64) (H1 : Heap) (locs1 : List Loc) (ls1 : Array Slot), jL_I σ' → jr τ'.1 σ'.1 → va_P D jw_cl (((oo, .inl (cJ, 1, .inr (.inl fo'))) :: jL_XW x f ad cI cZ cG cC σ') ++ jL_MW xm g cI cZ τ') H1 → va_D (fun q => s.heap.size ≤ q) (((oo, .inl (cJ, 1, .inr (.inl fo'))) :: jL_XW x f ad cI cZ cG cC σ') ++ jL_MW xm g cI cZ τ') → va_S (fun q => s.heap.size ≤ q) s.heap H1 locs1 → lv_has ls1 7 [(0, .ref b), (1, .ref x), (2, .ref xm), (3, .ref oo), (4, .int (nI i))] → W p l e R s m args below meth c H1 locs1 (cells + 1) (slots + 6) Q (F0 m 789 ls1 [])) : W p l e R s m args below meth c H locs cells slots Q (F0 m 562 ls []) := by
  have hKx : va_K D jw_cl (jL_ty cI cZ cG cC) s := ⟨hK.1, fun k q h => hK.2 (k + 1) q h⟩
  have hKm : va_K D jw_cl [(cI, .int), (cZ, .boolean)] s := (hK.sub [1, 2] rfl)
  obtain ⟨r, S', h1, h2⟩ := pL_deliver (l := l) (D := D) (x := x) (xm := xm) (f := f) (ad := ad) (g := g) (cI := cI) (cZ := cZ) (cG := cG) (cC := cC) (tx := tx) (si := si) (cd := cd) hI hj (xs (i + 1))
  refine lv_aload_n hx hb d_W_law_562 rfl (lv_at hl 1 rfl) ?_
  refine lv_aload_n hx hb d_W_law_563 rfl (lv_at hl 0 rfl) ?_
  refine lv_iload hx hb d_W_law_564 (lv_at hl 4 rfl) ?_
  refine lv_iconst (v := nI 1) hx hb d_W_law_566 (by decide) ?_
  refine lv_iadd hx hb d_W_law_567 ?_
  refine lv_topi (fun v1 ev1 => ?_)
  obtain rfl : v1 = nI (i + 1) := ev1.trans (nI_add _ _)
  refine va_sld hx hb hX hbl (Nat.not_le.mpr hbl) hS (vp_in_nI (n := i + 1) (by omega) (by omega)) d_W_law_568 ?_
  rw [show (nI (i + 1)).toNatClampNeg = i + 1 from nI_clamp (by omega)]
  refine jL_cX (As := [.int (xs (i + 1))]) (rest := []) hx hb hml hown ht h1 o_J_deliver k_W_81 rfl ⟨by omega, by omega⟩ hP hD hS (fun _ h => h) hKx rfl hl.1 rfl (Nat.le_of_ble_eq_true rfl) d_W_law_569 ⟨by omega, by omega⟩ (fun v9 σ' H locs h9 hP hD hS => ?_)
  obtain ⟨e9, hI1, e1⟩ := h9
  refine lv_aload_n hx hb d_W_law_572 rfl (lv_at hl 2 rfl) ?_
  refine lv_aload_n hx hb d_W_law_573 rfl (lv_at hl 0 rfl) ?_
  refine lv_iload hx hb d_W_law_574 (lv_at hl 4 rfl) ?_
  refine lv_iconst (v := nI 1) hx hb d_W_law_576 (by decide) ?_
  refine lv_iadd hx hb d_W_law_577 ?_
  refine lv_topi (fun v3 ev3 => ?_)
  obtain rfl : v3 = nI (i + 1) := ev3.trans (nI_add _ _)
  refine va_sld hx hb hX hbl (Nat.not_le.mpr hbl) hS (vp_in_nI (n := i + 1) (by omega) (by omega)) d_W_law_578 ?_
  rw [show (nI (i + 1)).toNatClampNeg = i + 1 from nI_clamp (by omega)]
  refine jL_cM (As := [.int (xs (i + 1))]) (rest := [.int v9]) hx hb hml hown ht h2 o_M_deliver k_W_84 rfl ⟨by omega, by omega⟩ hP hD hS (fun _ h => h) hKm rfl hl.1 rfl (Nat.le_of_ble_eq_true rfl) d_W_law_579 ⟨by omega, by omega⟩ (fun w9 τ' H locs h8 hP hD hS => ?_)
  obtain ⟨e7, h8⟩ := h8
  have hj1 : jr τ'.1 σ'.1 := by rw [e1]; exact h8
  refine lv_icmp_eq (tgt := 789) hx hb d_W_law_582 (by decide) (fun _ => ?_) (fun h => absurd (e9.trans e7.symm) h)
  exact W.widen (Nat.le_succ _) (Nat.le_add_right _ _) (kk σ' τ' fo H locs ls hI1 hj1 hP hD hS (lv_sub hl [0, 1, 2, 3, 4] rfl))

set_option maxHeartbeats 4000000 in
set_option maxRecDepth 100000 in
theorem wL_lose (hx : p.tables.exec = Jvm.exec) (hb : c.code = code) (hml : c.maxLocals = 7) (hown : s.vm.findClass jn_W = some m.cls) (ht : ∀ w ∈ jw_tbl, w.before args s = true) (hlf : l.flags = pinnedFlags ++ [noTraceFlag]) (hst : jT_st s) (hnc : jT_nc s) (hK : va_K D jw_cl ((cJ, .long) :: jL_ty cI cZ cG cC) s) (hR : 10 ≤ R.frames ∧ 340 ≤ R.locals) (hX : va_X b L xs s s.heap) (hbl : b < s.heap.size) (hL : L ≤ 2048) (hi4 : i + 4 ≤ L) (hI : jL_I (S, X, Y, M)) (hj : jr P S) (hP : va_P D jw_cl (((oo, .inl (cJ, 1, .inr (.inl fo))) :: jL_XW x f ad cI cZ cG cC (S, X, Y, M)) ++ jL_MW xm g cI cZ (P, tx, si, cd)) H) (hD : va_D (fun q => s.heap.size ≤ q) (((oo, .inl (cJ, 1, .inr (.inl fo))) :: jL_XW x f ad cI cZ cG cC (S, X, Y, M)) ++ jL_MW xm g cI cZ (P, tx, si, cd))) (hS : va_S (fun q => s.heap.size ≤ q) s.heap H locs) (hl : lv_has ls 7 [(0, .ref b), (1, .ref x), (2, .ref xm), (3, .ref oo), (4, .int (nI i))]) (hf : cells + 1 ≤ R.cells ∧ slots + 6 ≤ R.slots)
    (kk : ∀ (σ' : jL_T) (τ' : jL_U) (fo' : Nat → Int64) (H1 : Heap) (locs1 : List Loc) (ls1 : Array Slot), jL_I σ' → jr τ'.1 σ'.1 → va_P D jw_cl (((oo, .inl (cJ, 1, .inr (.inl fo'))) :: jL_XW x f ad cI cZ cG cC σ') ++ jL_MW xm g cI cZ τ') H1 → va_D (fun q => s.heap.size ≤ q) (((oo, .inl (cJ, 1, .inr (.inl fo'))) :: jL_XW x f ad cI cZ cG cC σ') ++ jL_MW xm g cI cZ τ') → va_S (fun q => s.heap.size ≤ q) s.heap H1 locs1 → lv_has ls1 7 [(0, .ref b), (1, .ref x), (2, .ref xm), (3, .ref oo), (4, .int (nI i))] → W p l e R s m args below meth c H1 locs1 (cells + 1) (slots + 6) Q (F0 m 789 ls1 [])) : W p l e R s m args below meth c H locs cells slots Q (F0 m 587 ls []) := by
  have hKx : va_K D jw_cl (jL_ty cI cZ cG cC) s := ⟨hK.1, fun k q h => hK.2 (k + 1) q h⟩
  have hKm : va_K D jw_cl [(cI, .int), (cZ, .boolean)] s := (hK.sub [1, 2] rfl)
  obtain ⟨r, S', h1, h2⟩ := pL_lose (l := l) (D := D) (x := x) (xm := xm) (f := f) (ad := ad) (g := g) (cI := cI) (cZ := cZ) (cG := cG) (cC := cC) (tx := tx) (si := si) (cd := cd) hI hj (xs (i + 1))
  refine lv_aload_n hx hb d_W_law_587 rfl (lv_at hl 1 rfl) ?_
  refine lv_aload_n hx hb d_W_law_588 rfl (lv_at hl 0 rfl) ?_
  refine lv_iload hx hb d_W_law_589 (lv_at hl 4 rfl) ?_
  refine lv_iconst (v := nI 1) hx hb d_W_law_591 (by decide) ?_
  refine lv_iadd hx hb d_W_law_592 ?_
  refine lv_topi (fun v1 ev1 => ?_)
  obtain rfl : v1 = nI (i + 1) := ev1.trans (nI_add _ _)
  refine va_sld hx hb hX hbl (Nat.not_le.mpr hbl) hS (vp_in_nI (n := i + 1) (by omega) (by omega)) d_W_law_593 ?_
  rw [show (nI (i + 1)).toNatClampNeg = i + 1 from nI_clamp (by omega)]
  refine jL_cX (As := [.int (xs (i + 1))]) (rest := []) hx hb hml hown ht h1 o_J_lose k_W_85 rfl ⟨by omega, by omega⟩ hP hD hS (fun _ h => h) hKx rfl hl.1 rfl (Nat.le_of_ble_eq_true rfl) d_W_law_594 ⟨by omega, by omega⟩ (fun v9 σ' H locs h9 hP hD hS => ?_)
  obtain ⟨e9, hI1, e1⟩ := h9
  refine lv_aload_n hx hb d_W_law_597 rfl (lv_at hl 2 rfl) ?_
  refine lv_aload_n hx hb d_W_law_598 rfl (lv_at hl 0 rfl) ?_
  refine lv_iload hx hb d_W_law_599 (lv_at hl 4 rfl) ?_
  refine lv_iconst (v := nI 1) hx hb d_W_law_601 (by decide) ?_
  refine lv_iadd hx hb d_W_law_602 ?_
  refine lv_topi (fun v3 ev3 => ?_)
  obtain rfl : v3 = nI (i + 1) := ev3.trans (nI_add _ _)
  refine va_sld hx hb hX hbl (Nat.not_le.mpr hbl) hS (vp_in_nI (n := i + 1) (by omega) (by omega)) d_W_law_603 ?_
  rw [show (nI (i + 1)).toNatClampNeg = i + 1 from nI_clamp (by omega)]
  refine jL_cM (As := [.int (xs (i + 1))]) (rest := [.int v9]) hx hb hml hown ht h2 o_M_lose k_W_89 rfl ⟨by omega, by omega⟩ hP hD hS (fun _ h => h) hKm rfl hl.1 rfl (Nat.le_of_ble_eq_true rfl) d_W_law_604 ⟨by omega, by omega⟩ (fun w9 τ' H locs h8 hP hD hS => ?_)
  obtain ⟨e7, h8⟩ := h8
  have hj1 : jr τ'.1 σ'.1 := by rw [e1]; exact h8
  refine lv_icmp_eq (tgt := 789) hx hb d_W_law_607 (by decide) (fun _ => ?_) (fun h => absurd (e9.trans e7.symm) h)
  exact W.widen (Nat.le_succ _) (Nat.le_add_right _ _) (kk σ' τ' fo H locs ls hI1 hj1 hP hD hS (lv_sub hl [0, 1, 2, 3, 4] rfl))

set_option maxHeartbeats 4000000 in
set_option maxRecDepth 100000 in
theorem wL_repeat (hx : p.tables.exec = Jvm.exec) (hb : c.code = code) (hml : c.maxLocals = 7) (hown : s.vm.findClass jn_W = some m.cls) (ht : ∀ w ∈ jw_tbl, w.before args s = true) (hlf : l.flags = pinnedFlags ++ [noTraceFlag]) (hst : jT_st s) (hnc : jT_nc s) (hK : va_K D jw_cl ((cJ, .long) :: jL_ty cI cZ cG cC) s) (hR : 10 ≤ R.frames ∧ 340 ≤ R.locals) (hX : va_X b L xs s s.heap) (hbl : b < s.heap.size) (hL : L ≤ 2048) (hi4 : i + 4 ≤ L) (hI : jL_I (S, X, Y, M)) (hj : jr P S) (hP : va_P D jw_cl (((oo, .inl (cJ, 1, .inr (.inl fo))) :: jL_XW x f ad cI cZ cG cC (S, X, Y, M)) ++ jL_MW xm g cI cZ (P, tx, si, cd)) H) (hD : va_D (fun q => s.heap.size ≤ q) (((oo, .inl (cJ, 1, .inr (.inl fo))) :: jL_XW x f ad cI cZ cG cC (S, X, Y, M)) ++ jL_MW xm g cI cZ (P, tx, si, cd))) (hS : va_S (fun q => s.heap.size ≤ q) s.heap H locs) (hl : lv_has ls 7 [(0, .ref b), (1, .ref x), (2, .ref xm), (3, .ref oo), (4, .int (nI i))]) (hf : cells + 1 ≤ R.cells ∧ slots + 6 ≤ R.slots)
    (kk : ∀ (σ' : jL_T) (τ' : jL_U) (fo' : Nat → Int64) (H1 : Heap) (locs1 : List Loc) (ls1 : Array Slot), jL_I σ' → jr τ'.1 σ'.1 → va_P D jw_cl (((oo, .inl (cJ, 1, .inr (.inl fo'))) :: jL_XW x f ad cI cZ cG cC σ') ++ jL_MW xm g cI cZ τ') H1 → va_D (fun q => s.heap.size ≤ q) (((oo, .inl (cJ, 1, .inr (.inl fo'))) :: jL_XW x f ad cI cZ cG cC σ') ++ jL_MW xm g cI cZ τ') → va_S (fun q => s.heap.size ≤ q) s.heap H1 locs1 → lv_has ls1 7 [(0, .ref b), (1, .ref x), (2, .ref xm), (3, .ref oo), (4, .int (nI i))] → W p l e R s m args below meth c H1 locs1 (cells + 1) (slots + 6) Q (F0 m 789 ls1 [])) : W p l e R s m args below meth c H locs cells slots Q (F0 m 612 ls []) := by
  have hKx : va_K D jw_cl (jL_ty cI cZ cG cC) s := ⟨hK.1, fun k q h => hK.2 (k + 1) q h⟩
  have hKm : va_K D jw_cl [(cI, .int), (cZ, .boolean)] s := (hK.sub [1, 2] rfl)
  obtain ⟨r, S', h1, h2⟩ := pL_repeat (l := l) (D := D) (x := x) (xm := xm) (f := f) (ad := ad) (g := g) (cI := cI) (cZ := cZ) (cG := cG) (cC := cC) (tx := tx) (si := si) (cd := cd) hI hj (xs (i + 1))
  refine lv_aload_n hx hb d_W_law_612 rfl (lv_at hl 1 rfl) ?_
  refine lv_aload_n hx hb d_W_law_613 rfl (lv_at hl 0 rfl) ?_
  refine lv_iload hx hb d_W_law_614 (lv_at hl 4 rfl) ?_
  refine lv_iconst (v := nI 1) hx hb d_W_law_616 (by decide) ?_
  refine lv_iadd hx hb d_W_law_617 ?_
  refine lv_topi (fun v1 ev1 => ?_)
  obtain rfl : v1 = nI (i + 1) := ev1.trans (nI_add _ _)
  refine va_sld hx hb hX hbl (Nat.not_le.mpr hbl) hS (vp_in_nI (n := i + 1) (by omega) (by omega)) d_W_law_618 ?_
  rw [show (nI (i + 1)).toNatClampNeg = i + 1 from nI_clamp (by omega)]
  refine jL_cX (As := [.int (xs (i + 1))]) (rest := []) hx hb hml hown ht h1 o_J_repeat k_W_90 rfl ⟨by omega, by omega⟩ hP hD hS (fun _ h => h) hKx rfl hl.1 rfl (Nat.le_of_ble_eq_true rfl) d_W_law_619 ⟨by omega, by omega⟩ (fun v9 σ' H locs h9 hP hD hS => ?_)
  obtain ⟨e9, hI1, e1⟩ := h9
  refine lv_aload_n hx hb d_W_law_622 rfl (lv_at hl 2 rfl) ?_
  refine lv_aload_n hx hb d_W_law_623 rfl (lv_at hl 0 rfl) ?_
  refine lv_iload hx hb d_W_law_624 (lv_at hl 4 rfl) ?_
  refine lv_iconst (v := nI 1) hx hb d_W_law_626 (by decide) ?_
  refine lv_iadd hx hb d_W_law_627 ?_
  refine lv_topi (fun v3 ev3 => ?_)
  obtain rfl : v3 = nI (i + 1) := ev3.trans (nI_add _ _)
  refine va_sld hx hb hX hbl (Nat.not_le.mpr hbl) hS (vp_in_nI (n := i + 1) (by omega) (by omega)) d_W_law_628 ?_
  rw [show (nI (i + 1)).toNatClampNeg = i + 1 from nI_clamp (by omega)]
  refine jL_cM (As := [.int (xs (i + 1))]) (rest := [.int v9]) hx hb hml hown ht h2 o_M_repeat k_W_93 rfl ⟨by omega, by omega⟩ hP hD hS (fun _ h => h) hKm rfl hl.1 rfl (Nat.le_of_ble_eq_true rfl) d_W_law_629 ⟨by omega, by omega⟩ (fun w9 τ' H locs h8 hP hD hS => ?_)
  obtain ⟨e7, h8⟩ := h8
  have hj1 : jr τ'.1 σ'.1 := by rw [e1]; exact h8
  refine lv_icmp_eq (tgt := 789) hx hb d_W_law_632 (by decide) (fun _ => ?_) (fun h => absurd (e9.trans e7.symm) h)
  exact W.widen (Nat.le_succ _) (Nat.le_add_right _ _) (kk σ' τ' fo H locs ls hI1 hj1 hP hD hS (lv_sub hl [0, 1, 2, 3, 4] rfl))

set_option maxHeartbeats 4000000 in
set_option maxRecDepth 100000 in
theorem wL_harm (hx : p.tables.exec = Jvm.exec) (hb : c.code = code) (hml : c.maxLocals = 7) (hown : s.vm.findClass jn_W = some m.cls) (ht : ∀ w ∈ jw_tbl, w.before args s = true) (hlf : l.flags = pinnedFlags ++ [noTraceFlag]) (hst : jT_st s) (hnc : jT_nc s) (hK : va_K D jw_cl ((cJ, .long) :: jL_ty cI cZ cG cC) s) (hR : 10 ≤ R.frames ∧ 340 ≤ R.locals) (hX : va_X b L xs s s.heap) (hbl : b < s.heap.size) (hL : L ≤ 2048) (hi4 : i + 4 ≤ L) (hI : jL_I (S, X, Y, M)) (hj : jr P S) (hP : va_P D jw_cl (((oo, .inl (cJ, 1, .inr (.inl fo))) :: jL_XW x f ad cI cZ cG cC (S, X, Y, M)) ++ jL_MW xm g cI cZ (P, tx, si, cd)) H) (hD : va_D (fun q => s.heap.size ≤ q) (((oo, .inl (cJ, 1, .inr (.inl fo))) :: jL_XW x f ad cI cZ cG cC (S, X, Y, M)) ++ jL_MW xm g cI cZ (P, tx, si, cd))) (hS : va_S (fun q => s.heap.size ≤ q) s.heap H locs) (hl : lv_has ls 7 [(0, .ref b), (1, .ref x), (2, .ref xm), (3, .ref oo), (4, .int (nI i))]) (hf : cells + 1 ≤ R.cells ∧ slots + 6 ≤ R.slots)
    (kk : ∀ (σ' : jL_T) (τ' : jL_U) (fo' : Nat → Int64) (H1 : Heap) (locs1 : List Loc) (ls1 : Array Slot), jL_I σ' → jr τ'.1 σ'.1 → va_P D jw_cl (((oo, .inl (cJ, 1, .inr (.inl fo'))) :: jL_XW x f ad cI cZ cG cC σ') ++ jL_MW xm g cI cZ τ') H1 → va_D (fun q => s.heap.size ≤ q) (((oo, .inl (cJ, 1, .inr (.inl fo'))) :: jL_XW x f ad cI cZ cG cC σ') ++ jL_MW xm g cI cZ τ') → va_S (fun q => s.heap.size ≤ q) s.heap H1 locs1 → lv_has ls1 7 [(0, .ref b), (1, .ref x), (2, .ref xm), (3, .ref oo), (4, .int (nI i))] → W p l e R s m args below meth c H1 locs1 (cells + 1) (slots + 6) Q (F0 m 789 ls1 [])) : W p l e R s m args below meth c H locs cells slots Q (F0 m 637 ls []) := by
  have hKx : va_K D jw_cl (jL_ty cI cZ cG cC) s := ⟨hK.1, fun k q h => hK.2 (k + 1) q h⟩
  have hKm : va_K D jw_cl [(cI, .int), (cZ, .boolean)] s := (hK.sub [1, 2] rfl)
  obtain ⟨r, S', h1, h2⟩ := pL_harm (l := l) (D := D) (x := x) (xm := xm) (f := f) (ad := ad) (g := g) (cI := cI) (cZ := cZ) (cG := cG) (cC := cC) (tx := tx) (si := si) (cd := cd) hI hj (xs (i + 1)) (xs (i + 2))
  refine lv_aload_n hx hb d_W_law_637 rfl (lv_at hl 1 rfl) ?_
  refine lv_aload_n hx hb d_W_law_638 rfl (lv_at hl 0 rfl) ?_
  refine lv_iload hx hb d_W_law_639 (lv_at hl 4 rfl) ?_
  refine lv_iconst (v := nI 1) hx hb d_W_law_641 (by decide) ?_
  refine lv_iadd hx hb d_W_law_642 ?_
  refine lv_topi (fun v1 ev1 => ?_)
  obtain rfl : v1 = nI (i + 1) := ev1.trans (nI_add _ _)
  refine va_sld hx hb hX hbl (Nat.not_le.mpr hbl) hS (vp_in_nI (n := i + 1) (by omega) (by omega)) d_W_law_643 ?_
  rw [show (nI (i + 1)).toNatClampNeg = i + 1 from nI_clamp (by omega)]
  refine lv_aload_n hx hb d_W_law_644 rfl (lv_at hl 0 rfl) ?_
  refine lv_iload hx hb d_W_law_645 (lv_at hl 4 rfl) ?_
  refine lv_iconst (v := nI 2) hx hb d_W_law_647 (by decide) ?_
  refine lv_iadd hx hb d_W_law_648 ?_
  refine lv_topi (fun v2 ev2 => ?_)
  obtain rfl : v2 = nI (i + 2) := ev2.trans (nI_add _ _)
  refine va_sld hx hb hX hbl (Nat.not_le.mpr hbl) hS (vp_in_nI (n := i + 2) (by omega) (by omega)) d_W_law_649 ?_
  rw [show (nI (i + 2)).toNatClampNeg = i + 2 from nI_clamp (by omega)]
  refine jL_cX (As := [.int (xs (i + 1)), .int (xs (i + 2))]) (rest := []) hx hb hml hown ht h1 o_J_harm k_W_94 rfl ⟨by omega, by omega⟩ hP hD hS (fun _ h => h) hKx rfl hl.1 rfl (Nat.le_of_ble_eq_true rfl) d_W_law_650 ⟨by omega, by omega⟩ (fun v9 σ' H locs h9 hP hD hS => ?_)
  obtain ⟨e9, hI1, e1⟩ := h9
  refine lv_aload_n hx hb d_W_law_653 rfl (lv_at hl 2 rfl) ?_
  refine lv_aload_n hx hb d_W_law_654 rfl (lv_at hl 0 rfl) ?_
  refine lv_iload hx hb d_W_law_655 (lv_at hl 4 rfl) ?_
  refine lv_iconst (v := nI 1) hx hb d_W_law_657 (by decide) ?_
  refine lv_iadd hx hb d_W_law_658 ?_
  refine lv_topi (fun v4 ev4 => ?_)
  obtain rfl : v4 = nI (i + 1) := ev4.trans (nI_add _ _)
  refine va_sld hx hb hX hbl (Nat.not_le.mpr hbl) hS (vp_in_nI (n := i + 1) (by omega) (by omega)) d_W_law_659 ?_
  rw [show (nI (i + 1)).toNatClampNeg = i + 1 from nI_clamp (by omega)]
  refine lv_aload_n hx hb d_W_law_660 rfl (lv_at hl 0 rfl) ?_
  refine lv_iload hx hb d_W_law_661 (lv_at hl 4 rfl) ?_
  refine lv_iconst (v := nI 2) hx hb d_W_law_663 (by decide) ?_
  refine lv_iadd hx hb d_W_law_664 ?_
  refine lv_topi (fun v5 ev5 => ?_)
  obtain rfl : v5 = nI (i + 2) := ev5.trans (nI_add _ _)
  refine va_sld hx hb hX hbl (Nat.not_le.mpr hbl) hS (vp_in_nI (n := i + 2) (by omega) (by omega)) d_W_law_665 ?_
  rw [show (nI (i + 2)).toNatClampNeg = i + 2 from nI_clamp (by omega)]
  refine jL_cM (As := [.int (xs (i + 1)), .int (xs (i + 2))]) (rest := [.int v9]) hx hb hml hown ht h2 o_M_harm k_W_98 rfl ⟨by omega, by omega⟩ hP hD hS (fun _ h => h) hKm rfl hl.1 rfl (Nat.le_of_ble_eq_true rfl) d_W_law_666 ⟨by omega, by omega⟩ (fun w9 τ' H locs h8 hP hD hS => ?_)
  obtain ⟨e7, h8⟩ := h8
  have hj1 : jr τ'.1 σ'.1 := by rw [e1]; exact h8
  refine lv_icmp_eq (tgt := 789) hx hb d_W_law_669 (by decide) (fun _ => ?_) (fun h => absurd (e9.trans e7.symm) h)
  exact W.widen (Nat.le_succ _) (Nat.le_add_right _ _) (kk σ' τ' fo H locs ls hI1 hj1 hP hD hS (lv_sub hl [0, 1, 2, 3, 4] rfl))

set_option maxHeartbeats 4000000 in
set_option maxRecDepth 100000 in
theorem wL_tick (hx : p.tables.exec = Jvm.exec) (hb : c.code = code) (hml : c.maxLocals = 7) (hown : s.vm.findClass jn_W = some m.cls) (ht : ∀ w ∈ jw_tbl, w.before args s = true) (hlf : l.flags = pinnedFlags ++ [noTraceFlag]) (hst : jT_st s) (hnc : jT_nc s) (hK : va_K D jw_cl ((cJ, .long) :: jL_ty cI cZ cG cC) s) (hR : 10 ≤ R.frames ∧ 340 ≤ R.locals) (hX : va_X b L xs s s.heap) (hbl : b < s.heap.size) (hL : L ≤ 2048) (hi4 : i + 4 ≤ L) (hI : jL_I (S, X, Y, M)) (hj : jr P S) (hP : va_P D jw_cl (((oo, .inl (cJ, 1, .inr (.inl fo))) :: jL_XW x f ad cI cZ cG cC (S, X, Y, M)) ++ jL_MW xm g cI cZ (P, tx, si, cd)) H) (hD : va_D (fun q => s.heap.size ≤ q) (((oo, .inl (cJ, 1, .inr (.inl fo))) :: jL_XW x f ad cI cZ cG cC (S, X, Y, M)) ++ jL_MW xm g cI cZ (P, tx, si, cd))) (hS : va_S (fun q => s.heap.size ≤ q) s.heap H locs) (hl : lv_has ls 7 [(0, .ref b), (1, .ref x), (2, .ref xm), (3, .ref oo), (4, .int (nI i))]) (hf : cells + 1 ≤ R.cells ∧ slots + 6 ≤ R.slots)
    (kk : ∀ (σ' : jL_T) (τ' : jL_U) (fo' : Nat → Int64) (H1 : Heap) (locs1 : List Loc) (ls1 : Array Slot), jL_I σ' → jr τ'.1 σ'.1 → va_P D jw_cl (((oo, .inl (cJ, 1, .inr (.inl fo'))) :: jL_XW x f ad cI cZ cG cC σ') ++ jL_MW xm g cI cZ τ') H1 → va_D (fun q => s.heap.size ≤ q) (((oo, .inl (cJ, 1, .inr (.inl fo'))) :: jL_XW x f ad cI cZ cG cC σ') ++ jL_MW xm g cI cZ τ') → va_S (fun q => s.heap.size ≤ q) s.heap H1 locs1 → lv_has ls1 7 [(0, .ref b), (1, .ref x), (2, .ref xm), (3, .ref oo), (4, .int (nI i))] → W p l e R s m args below meth c H1 locs1 (cells + 1) (slots + 6) Q (F0 m 789 ls1 [])) : W p l e R s m args below meth c H locs cells slots Q (F0 m 674 ls []) := by
  have hKx : va_K D jw_cl (jL_ty cI cZ cG cC) s := ⟨hK.1, fun k q h => hK.2 (k + 1) q h⟩
  have hKm : va_K D jw_cl [(cI, .int), (cZ, .boolean)] s := (hK.sub [1, 2] rfl)
  obtain ⟨S', h1, h2⟩ := pL_tick (l := l) (D := D) (x := x) (xm := xm) (f := f) (ad := ad) (g := g) (cI := cI) (cZ := cZ) (cG := cG) (cC := cC) (tx := tx) (si := si) (cd := cd) hI hj
  refine lv_aload_n hx hb d_W_law_674 rfl (lv_at hl 1 rfl) ?_
  refine jL_cXV (As := []) (rest := []) hx hb hml hown ht h1 o_J_tick k_W_99 rfl ⟨by omega, by omega⟩ hP hD hS (fun _ h => h) hKx rfl hl.1 rfl (Nat.le_of_ble_eq_true rfl) d_W_law_675 ⟨by omega, by omega⟩ (fun σ' H locs h9 hP hD hS => ?_)
  obtain ⟨hI1, e1⟩ := h9
  refine lv_aload_n hx hb d_W_law_678 rfl (lv_at hl 2 rfl) ?_
  refine jL_cMV (As := []) (rest := []) hx hb hml hown ht h2 o_M_tick k_W_102 rfl ⟨by omega, by omega⟩ hP hD hS (fun _ h => h) hKm rfl hl.1 rfl (Nat.le_of_ble_eq_true rfl) d_W_law_679 ⟨by omega, by omega⟩ (fun τ' H locs h8 hP hD hS => ?_)
  have hj1 : jr τ'.1 σ'.1 := by rw [e1]; exact h8
  refine lv_goto (tgt := 789) hx hb d_W_law_682 (by decide) ?_
  exact W.widen (Nat.le_succ _) (Nat.le_add_right _ _) (kk σ' τ' fo H locs ls hI1 hj1 hP hD hS (lv_sub hl [0, 1, 2, 3, 4] rfl))

set_option maxHeartbeats 4000000 in
set_option maxRecDepth 100000 in
theorem wL_connect (hx : p.tables.exec = Jvm.exec) (hb : c.code = code) (hml : c.maxLocals = 7) (hown : s.vm.findClass jn_W = some m.cls) (ht : ∀ w ∈ jw_tbl, w.before args s = true) (hlf : l.flags = pinnedFlags ++ [noTraceFlag]) (hst : jT_st s) (hnc : jT_nc s) (hK : va_K D jw_cl ((cJ, .long) :: jL_ty cI cZ cG cC) s) (hR : 10 ≤ R.frames ∧ 340 ≤ R.locals) (hX : va_X b L xs s s.heap) (hbl : b < s.heap.size) (hL : L ≤ 2048) (hi4 : i + 4 ≤ L) (hI : jL_I (S, X, Y, M)) (hj : jr P S) (hP : va_P D jw_cl (((oo, .inl (cJ, 1, .inr (.inl fo))) :: jL_XW x f ad cI cZ cG cC (S, X, Y, M)) ++ jL_MW xm g cI cZ (P, tx, si, cd)) H) (hD : va_D (fun q => s.heap.size ≤ q) (((oo, .inl (cJ, 1, .inr (.inl fo))) :: jL_XW x f ad cI cZ cG cC (S, X, Y, M)) ++ jL_MW xm g cI cZ (P, tx, si, cd))) (hS : va_S (fun q => s.heap.size ≤ q) s.heap H locs) (hl : lv_has ls 7 [(0, .ref b), (1, .ref x), (2, .ref xm), (3, .ref oo), (4, .int (nI i))]) (hf : cells + 1 ≤ R.cells ∧ slots + 6 ≤ R.slots)
    (kk : ∀ (σ' : jL_T) (τ' : jL_U) (fo' : Nat → Int64) (H1 : Heap) (locs1 : List Loc) (ls1 : Array Slot), jL_I σ' → jr τ'.1 σ'.1 → va_P D jw_cl (((oo, .inl (cJ, 1, .inr (.inl fo'))) :: jL_XW x f ad cI cZ cG cC σ') ++ jL_MW xm g cI cZ τ') H1 → va_D (fun q => s.heap.size ≤ q) (((oo, .inl (cJ, 1, .inr (.inl fo'))) :: jL_XW x f ad cI cZ cG cC σ') ++ jL_MW xm g cI cZ τ') → va_S (fun q => s.heap.size ≤ q) s.heap H1 locs1 → lv_has ls1 7 [(0, .ref b), (1, .ref x), (2, .ref xm), (3, .ref oo), (4, .int (nI i))] → W p l e R s m args below meth c H1 locs1 (cells + 1) (slots + 6) Q (F0 m 789 ls1 [])) : W p l e R s m args below meth c H locs cells slots Q (F0 m 685 ls []) := by
  have hKx : va_K D jw_cl (jL_ty cI cZ cG cC) s := ⟨hK.1, fun k q h => hK.2 (k + 1) q h⟩
  have hKm : va_K D jw_cl [(cI, .int), (cZ, .boolean)] s := (hK.sub [1, 2] rfl)
  by_cases e0 : xs (i + 2) = 0
  · skip
    obtain ⟨r, S', h1, h2⟩ := pL_connect (l := l) (D := D) (x := x) (xm := xm) (f := f) (ad := ad) (g := g) (cI := cI) (cZ := cZ) (cG := cG) (cC := cC) (tx := tx) (si := si) (cd := cd) hI hj (xs (i + 1)) 0 (by decide)
    refine lv_aload_n hx hb d_W_law_685 rfl (lv_at hl 1 rfl) ?_
    refine lv_aload_n hx hb d_W_law_686 rfl (lv_at hl 0 rfl) ?_
    refine lv_iload hx hb d_W_law_687 (lv_at hl 4 rfl) ?_
    refine lv_iconst (v := nI 1) hx hb d_W_law_689 (by decide) ?_
    refine lv_iadd hx hb d_W_law_690 ?_
    refine lv_topi (fun v1 ev1 => ?_)
    obtain rfl : v1 = nI (i + 1) := ev1.trans (nI_add _ _)
    refine va_sld hx hb hX hbl (Nat.not_le.mpr hbl) hS (vp_in_nI (n := i + 1) (by omega) (by omega)) d_W_law_691 ?_
    rw [show (nI (i + 1)).toNatClampNeg = i + 1 from nI_clamp (by omega)]
    refine lv_aload_n hx hb d_W_law_692 rfl (lv_at hl 0 rfl) ?_
    refine lv_iload hx hb d_W_law_693 (lv_at hl 4 rfl) ?_
    refine lv_iconst (v := nI 2) hx hb d_W_law_695 (by decide) ?_
    refine lv_iadd hx hb d_W_law_696 ?_
    refine lv_topi (fun v2 ev2 => ?_)
    obtain rfl : v2 = nI (i + 2) := ev2.trans (nI_add _ _)
    refine va_sld hx hb hX hbl (Nat.not_le.mpr hbl) hS (vp_in_nI (n := i + 2) (by omega) (by omega)) d_W_law_697 ?_
    rw [show (nI (i + 2)).toNatClampNeg = i + 2 from nI_clamp (by omega)]
    refine lv_if_eq (tgt := 705) hx hb d_W_law_698 (by decide) (fun _ => ?_) (fun h => absurd e0 h)
    refine lv_iconst (v := nI 0) hx hb d_W_law_705 (by decide) ?_
    refine jL_cX (As := [.int (xs (i + 1)), .int (nI 0)]) (rest := []) hx hb hml hown ht h1 o_J_connect k_W_103 rfl ⟨by omega, by omega⟩ hP hD hS (fun _ h => h) hKx rfl hl.1 rfl (Nat.le_of_ble_eq_true rfl) d_W_law_706 ⟨by omega, by omega⟩ (fun v9 σ' H locs h9 hP hD hS => ?_)
    obtain ⟨e9, hI1, e1⟩ := h9
    refine lv_aload_n hx hb d_W_law_709 rfl (lv_at hl 2 rfl) ?_
    refine lv_aload_n hx hb d_W_law_710 rfl (lv_at hl 0 rfl) ?_
    refine lv_iload hx hb d_W_law_711 (lv_at hl 4 rfl) ?_
    refine lv_iconst (v := nI 1) hx hb d_W_law_713 (by decide) ?_
    refine lv_iadd hx hb d_W_law_714 ?_
    refine lv_topi (fun v4 ev4 => ?_)
    obtain rfl : v4 = nI (i + 1) := ev4.trans (nI_add _ _)
    refine va_sld hx hb hX hbl (Nat.not_le.mpr hbl) hS (vp_in_nI (n := i + 1) (by omega) (by omega)) d_W_law_715 ?_
    rw [show (nI (i + 1)).toNatClampNeg = i + 1 from nI_clamp (by omega)]
    refine lv_aload_n hx hb d_W_law_716 rfl (lv_at hl 0 rfl) ?_
    refine lv_iload hx hb d_W_law_717 (lv_at hl 4 rfl) ?_
    refine lv_iconst (v := nI 2) hx hb d_W_law_719 (by decide) ?_
    refine lv_iadd hx hb d_W_law_720 ?_
    refine lv_topi (fun v5 ev5 => ?_)
    obtain rfl : v5 = nI (i + 2) := ev5.trans (nI_add _ _)
    refine va_sld hx hb hX hbl (Nat.not_le.mpr hbl) hS (vp_in_nI (n := i + 2) (by omega) (by omega)) d_W_law_721 ?_
    rw [show (nI (i + 2)).toNatClampNeg = i + 2 from nI_clamp (by omega)]
    refine lv_if_eq (tgt := 729) hx hb d_W_law_722 (by decide) (fun _ => ?_) (fun h => absurd e0 h)
    refine lv_iconst (v := nI 0) hx hb d_W_law_729 (by decide) ?_
    refine jL_cM (As := [.int (xs (i + 1)), .int (nI 0)]) (rest := [.int v9]) hx hb hml hown ht h2 o_M_connect k_W_107 rfl ⟨by omega, by omega⟩ hP hD hS (fun _ h => h) hKm rfl hl.1 rfl (Nat.le_of_ble_eq_true rfl) d_W_law_730 ⟨by omega, by omega⟩ (fun w9 τ' H locs h8 hP hD hS => ?_)
    obtain ⟨e7, h8⟩ := h8
    have hj1 : jr τ'.1 σ'.1 := by rw [e1]; exact h8
    refine lv_icmp_eq (tgt := 789) hx hb d_W_law_733 (by decide) (fun _ => ?_) (fun h => absurd (e9.trans e7.symm) h)
    exact W.widen (Nat.le_succ _) (Nat.le_add_right _ _) (kk σ' τ' fo H locs ls hI1 hj1 hP hD hS (lv_sub hl [0, 1, 2, 3, 4] rfl))
  · skip
    obtain ⟨r, S', h1, h2⟩ := pL_connect (l := l) (D := D) (x := x) (xm := xm) (f := f) (ad := ad) (g := g) (cI := cI) (cZ := cZ) (cG := cG) (cC := cC) (tx := tx) (si := si) (cd := cd) hI hj (xs (i + 1)) 1 (by decide)
    refine lv_aload_n hx hb d_W_law_685 rfl (lv_at hl 1 rfl) ?_
    refine lv_aload_n hx hb d_W_law_686 rfl (lv_at hl 0 rfl) ?_
    refine lv_iload hx hb d_W_law_687 (lv_at hl 4 rfl) ?_
    refine lv_iconst (v := nI 1) hx hb d_W_law_689 (by decide) ?_
    refine lv_iadd hx hb d_W_law_690 ?_
    refine lv_topi (fun v6 ev6 => ?_)
    obtain rfl : v6 = nI (i + 1) := ev6.trans (nI_add _ _)
    refine va_sld hx hb hX hbl (Nat.not_le.mpr hbl) hS (vp_in_nI (n := i + 1) (by omega) (by omega)) d_W_law_691 ?_
    rw [show (nI (i + 1)).toNatClampNeg = i + 1 from nI_clamp (by omega)]
    refine lv_aload_n hx hb d_W_law_692 rfl (lv_at hl 0 rfl) ?_
    refine lv_iload hx hb d_W_law_693 (lv_at hl 4 rfl) ?_
    refine lv_iconst (v := nI 2) hx hb d_W_law_695 (by decide) ?_
    refine lv_iadd hx hb d_W_law_696 ?_
    refine lv_topi (fun v7 ev7 => ?_)
    obtain rfl : v7 = nI (i + 2) := ev7.trans (nI_add _ _)
    refine va_sld hx hb hX hbl (Nat.not_le.mpr hbl) hS (vp_in_nI (n := i + 2) (by omega) (by omega)) d_W_law_697 ?_
    rw [show (nI (i + 2)).toNatClampNeg = i + 2 from nI_clamp (by omega)]
    refine lv_if_eq (tgt := 705) hx hb d_W_law_698 (by decide) (fun h => absurd h e0) (fun _ => ?_)
    refine lv_iconst (v := nI 1) hx hb d_W_law_701 (by decide) ?_
    refine lv_goto (tgt := 706) hx hb d_W_law_702 (by decide) ?_
    refine jL_cX (As := [.int (xs (i + 1)), .int (nI 1)]) (rest := []) hx hb hml hown ht h1 o_J_connect k_W_103 rfl ⟨by omega, by omega⟩ hP hD hS (fun _ h => h) hKx rfl hl.1 rfl (Nat.le_of_ble_eq_true rfl) d_W_law_706 ⟨by omega, by omega⟩ (fun v9 σ' H locs h9 hP hD hS => ?_)
    obtain ⟨e9, hI1, e1⟩ := h9
    refine lv_aload_n hx hb d_W_law_709 rfl (lv_at hl 2 rfl) ?_
    refine lv_aload_n hx hb d_W_law_710 rfl (lv_at hl 0 rfl) ?_
    refine lv_iload hx hb d_W_law_711 (lv_at hl 4 rfl) ?_
    refine lv_iconst (v := nI 1) hx hb d_W_law_713 (by decide) ?_
    refine lv_iadd hx hb d_W_law_714 ?_
    refine lv_topi (fun v9 ev9 => ?_)
    obtain rfl : v9 = nI (i + 1) := ev9.trans (nI_add _ _)
    refine va_sld hx hb hX hbl (Nat.not_le.mpr hbl) hS (vp_in_nI (n := i + 1) (by omega) (by omega)) d_W_law_715 ?_
    rw [show (nI (i + 1)).toNatClampNeg = i + 1 from nI_clamp (by omega)]
    refine lv_aload_n hx hb d_W_law_716 rfl (lv_at hl 0 rfl) ?_
    refine lv_iload hx hb d_W_law_717 (lv_at hl 4 rfl) ?_
    refine lv_iconst (v := nI 2) hx hb d_W_law_719 (by decide) ?_
    refine lv_iadd hx hb d_W_law_720 ?_
    refine lv_topi (fun v10 ev10 => ?_)
    obtain rfl : v10 = nI (i + 2) := ev10.trans (nI_add _ _)
    refine va_sld hx hb hX hbl (Nat.not_le.mpr hbl) hS (vp_in_nI (n := i + 2) (by omega) (by omega)) d_W_law_721 ?_
    rw [show (nI (i + 2)).toNatClampNeg = i + 2 from nI_clamp (by omega)]
    refine lv_if_eq (tgt := 729) hx hb d_W_law_722 (by decide) (fun h => absurd h e0) (fun _ => ?_)
    refine lv_iconst (v := nI 1) hx hb d_W_law_725 (by decide) ?_
    refine lv_goto (tgt := 730) hx hb d_W_law_726 (by decide) ?_
    refine jL_cM (As := [.int (xs (i + 1)), .int (nI 1)]) (rest := [.int v9]) hx hb hml hown ht h2 o_M_connect k_W_107 rfl ⟨by omega, by omega⟩ hP hD hS (fun _ h => h) hKm rfl hl.1 rfl (Nat.le_of_ble_eq_true rfl) d_W_law_730 ⟨by omega, by omega⟩ (fun w9 τ' H locs h8 hP hD hS => ?_)
    obtain ⟨e7, h8⟩ := h8
    have hj1 : jr τ'.1 σ'.1 := by rw [e1]; exact h8
    refine lv_icmp_eq (tgt := 789) hx hb d_W_law_733 (by decide) (fun _ => ?_) (fun h => absurd (e9.trans e7.symm) h)
    exact W.widen (Nat.le_succ _) (Nat.le_add_right _ _) (kk σ' τ' fo H locs ls hI1 hj1 hP hD hS (lv_sub hl [0, 1, 2, 3, 4] rfl))

set_option maxHeartbeats 4000000 in
set_option maxRecDepth 100000 in
theorem wL_trip (hx : p.tables.exec = Jvm.exec) (hb : c.code = code) (hml : c.maxLocals = 7) (hown : s.vm.findClass jn_W = some m.cls) (ht : ∀ w ∈ jw_tbl, w.before args s = true) (hlf : l.flags = pinnedFlags ++ [noTraceFlag]) (hst : jT_st s) (hnc : jT_nc s) (hK : va_K D jw_cl ((cJ, .long) :: jL_ty cI cZ cG cC) s) (hR : 10 ≤ R.frames ∧ 340 ≤ R.locals) (hX : va_X b L xs s s.heap) (hbl : b < s.heap.size) (hL : L ≤ 2048) (hi4 : i + 4 ≤ L) (hI : jL_I (S, X, Y, M)) (hj : jr P S) (hP : va_P D jw_cl (((oo, .inl (cJ, 1, .inr (.inl fo))) :: jL_XW x f ad cI cZ cG cC (S, X, Y, M)) ++ jL_MW xm g cI cZ (P, tx, si, cd)) H) (hD : va_D (fun q => s.heap.size ≤ q) (((oo, .inl (cJ, 1, .inr (.inl fo))) :: jL_XW x f ad cI cZ cG cC (S, X, Y, M)) ++ jL_MW xm g cI cZ (P, tx, si, cd))) (hS : va_S (fun q => s.heap.size ≤ q) s.heap H locs) (hl : lv_has ls 7 [(0, .ref b), (1, .ref x), (2, .ref xm), (3, .ref oo), (4, .int (nI i))]) (hf : cells + 1 ≤ R.cells ∧ slots + 6 ≤ R.slots)
    (kk : ∀ (σ' : jL_T) (τ' : jL_U) (fo' : Nat → Int64) (H1 : Heap) (locs1 : List Loc) (ls1 : Array Slot), jL_I σ' → jr τ'.1 σ'.1 → va_P D jw_cl (((oo, .inl (cJ, 1, .inr (.inl fo'))) :: jL_XW x f ad cI cZ cG cC σ') ++ jL_MW xm g cI cZ τ') H1 → va_D (fun q => s.heap.size ≤ q) (((oo, .inl (cJ, 1, .inr (.inl fo'))) :: jL_XW x f ad cI cZ cG cC σ') ++ jL_MW xm g cI cZ τ') → va_S (fun q => s.heap.size ≤ q) s.heap H1 locs1 → lv_has ls1 7 [(0, .ref b), (1, .ref x), (2, .ref xm), (3, .ref oo), (4, .int (nI i))] → W p l e R s m args below meth c H1 locs1 (cells + 1) (slots + 6) Q (F0 m 789 ls1 [])) : W p l e R s m args below meth c H locs cells slots Q (F0 m 738 ls []) := by
  have hKx : va_K D jw_cl (jL_ty cI cZ cG cC) s := ⟨hK.1, fun k q h => hK.2 (k + 1) q h⟩
  have hKm : va_K D jw_cl [(cI, .int), (cZ, .boolean)] s := (hK.sub [1, 2] rfl)
  obtain ⟨r, S', h1, h2⟩ := pL_trip (l := l) (D := D) (x := x) (xm := xm) (f := f) (ad := ad) (g := g) (cI := cI) (cZ := cZ) (cG := cG) (cC := cC) (tx := tx) (si := si) (cd := cd) hI hj (xs (i + 1))
  refine lv_aload_n hx hb d_W_law_738 rfl (lv_at hl 1 rfl) ?_
  refine lv_aload_n hx hb d_W_law_739 rfl (lv_at hl 0 rfl) ?_
  refine lv_iload hx hb d_W_law_740 (lv_at hl 4 rfl) ?_
  refine lv_iconst (v := nI 1) hx hb d_W_law_742 (by decide) ?_
  refine lv_iadd hx hb d_W_law_743 ?_
  refine lv_topi (fun v1 ev1 => ?_)
  obtain rfl : v1 = nI (i + 1) := ev1.trans (nI_add _ _)
  refine va_sld hx hb hX hbl (Nat.not_le.mpr hbl) hS (vp_in_nI (n := i + 1) (by omega) (by omega)) d_W_law_744 ?_
  rw [show (nI (i + 1)).toNatClampNeg = i + 1 from nI_clamp (by omega)]
  refine jL_cX (As := [.int (xs (i + 1))]) (rest := []) hx hb hml hown ht h1 o_J_trip k_W_108 rfl ⟨by omega, by omega⟩ hP hD hS (fun _ h => h) hKx rfl hl.1 rfl (Nat.le_of_ble_eq_true rfl) d_W_law_745 ⟨by omega, by omega⟩ (fun v9 σ' H locs h9 hP hD hS => ?_)
  obtain ⟨e9, hI1, e1⟩ := h9
  refine lv_aload_n hx hb d_W_law_748 rfl (lv_at hl 2 rfl) ?_
  refine lv_aload_n hx hb d_W_law_749 rfl (lv_at hl 0 rfl) ?_
  refine lv_iload hx hb d_W_law_750 (lv_at hl 4 rfl) ?_
  refine lv_iconst (v := nI 1) hx hb d_W_law_752 (by decide) ?_
  refine lv_iadd hx hb d_W_law_753 ?_
  refine lv_topi (fun v3 ev3 => ?_)
  obtain rfl : v3 = nI (i + 1) := ev3.trans (nI_add _ _)
  refine va_sld hx hb hX hbl (Nat.not_le.mpr hbl) hS (vp_in_nI (n := i + 1) (by omega) (by omega)) d_W_law_754 ?_
  rw [show (nI (i + 1)).toNatClampNeg = i + 1 from nI_clamp (by omega)]
  refine jL_cM (As := [.int (xs (i + 1))]) (rest := [.int v9]) hx hb hml hown ht h2 o_M_trip k_W_111 rfl ⟨by omega, by omega⟩ hP hD hS (fun _ h => h) hKm rfl hl.1 rfl (Nat.le_of_ble_eq_true rfl) d_W_law_755 ⟨by omega, by omega⟩ (fun w9 τ' H locs h8 hP hD hS => ?_)
  obtain ⟨e7, h8⟩ := h8
  have hj1 : jr τ'.1 σ'.1 := by rw [e1]; exact h8
  refine lv_icmp_eq (tgt := 789) hx hb d_W_law_758 (by decide) (fun _ => ?_) (fun h => absurd (e9.trans e7.symm) h)
  exact W.widen (Nat.le_succ _) (Nat.le_add_right _ _) (kk σ' τ' fo H locs ls hI1 hj1 hP hD hS (lv_sub hl [0, 1, 2, 3, 4] rfl))

set_option maxHeartbeats 4000000 in
set_option maxRecDepth 100000 in
theorem wL_crash (hx : p.tables.exec = Jvm.exec) (hb : c.code = code) (hml : c.maxLocals = 7) (hown : s.vm.findClass jn_W = some m.cls) (ht : ∀ w ∈ jw_tbl, w.before args s = true) (hlf : l.flags = pinnedFlags ++ [noTraceFlag]) (hst : jT_st s) (hnc : jT_nc s) (hK : va_K D jw_cl ((cJ, .long) :: jL_ty cI cZ cG cC) s) (hR : 10 ≤ R.frames ∧ 340 ≤ R.locals) (hX : va_X b L xs s s.heap) (hbl : b < s.heap.size) (hL : L ≤ 2048) (hi4 : i + 4 ≤ L) (hI : jL_I (S, X, Y, M)) (hj : jr P S) (hP : va_P D jw_cl (((oo, .inl (cJ, 1, .inr (.inl fo))) :: jL_XW x f ad cI cZ cG cC (S, X, Y, M)) ++ jL_MW xm g cI cZ (P, tx, si, cd)) H) (hD : va_D (fun q => s.heap.size ≤ q) (((oo, .inl (cJ, 1, .inr (.inl fo))) :: jL_XW x f ad cI cZ cG cC (S, X, Y, M)) ++ jL_MW xm g cI cZ (P, tx, si, cd))) (hS : va_S (fun q => s.heap.size ≤ q) s.heap H locs) (hl : lv_has ls 7 [(0, .ref b), (1, .ref x), (2, .ref xm), (3, .ref oo), (4, .int (nI i))]) (hf : cells + 1 ≤ R.cells ∧ slots + 6 ≤ R.slots)
    (kk : ∀ (σ' : jL_T) (τ' : jL_U) (fo' : Nat → Int64) (H1 : Heap) (locs1 : List Loc) (ls1 : Array Slot), jL_I σ' → jr τ'.1 σ'.1 → va_P D jw_cl (((oo, .inl (cJ, 1, .inr (.inl fo'))) :: jL_XW x f ad cI cZ cG cC σ') ++ jL_MW xm g cI cZ τ') H1 → va_D (fun q => s.heap.size ≤ q) (((oo, .inl (cJ, 1, .inr (.inl fo'))) :: jL_XW x f ad cI cZ cG cC σ') ++ jL_MW xm g cI cZ τ') → va_S (fun q => s.heap.size ≤ q) s.heap H1 locs1 → lv_has ls1 7 [(0, .ref b), (1, .ref x), (2, .ref xm), (3, .ref oo), (4, .int (nI i))] → W p l e R s m args below meth c H1 locs1 (cells + 1) (slots + 6) Q (F0 m 789 ls1 [])) : W p l e R s m args below meth c H locs cells slots Q (F0 m 763 ls []) := by
  have hKx : va_K D jw_cl (jL_ty cI cZ cG cC) s := ⟨hK.1, fun k q h => hK.2 (k + 1) q h⟩
  have hKm : va_K D jw_cl [(cI, .int), (cZ, .boolean)] s := (hK.sub [1, 2] rfl)
  obtain ⟨r, S', h1, h2⟩ := pL_crash (l := l) (D := D) (x := x) (xm := xm) (f := f) (ad := ad) (g := g) (cI := cI) (cZ := cZ) (cG := cG) (cC := cC) (tx := tx) (si := si) (cd := cd) hI hj 
  refine lv_aload_n hx hb d_W_law_763 rfl (lv_at hl 1 rfl) ?_
  refine jL_cX (As := []) (rest := []) hx hb hml hown ht h1 o_J_crash k_W_112 rfl ⟨by omega, by omega⟩ hP hD hS (fun _ h => h) hKx rfl hl.1 rfl (Nat.le_of_ble_eq_true rfl) d_W_law_764 ⟨by omega, by omega⟩ (fun v9 σ' H locs h9 hP hD hS => ?_)
  obtain ⟨e9, hI1, e1⟩ := h9
  refine lv_aload_n hx hb d_W_law_767 rfl (lv_at hl 2 rfl) ?_
  refine jL_cM (As := []) (rest := [.int v9]) hx hb hml hown ht h2 o_M_crash k_W_116 rfl ⟨by omega, by omega⟩ hP hD hS (fun _ h => h) hKm rfl hl.1 rfl (Nat.le_of_ble_eq_true rfl) d_W_law_768 ⟨by omega, by omega⟩ (fun w9 τ' H locs h8 hP hD hS => ?_)
  obtain ⟨e7, h8⟩ := h8
  have hj1 : jr τ'.1 σ'.1 := by rw [e1]; exact h8
  refine lv_icmp_eq (tgt := 789) hx hb d_W_law_771 (by decide) (fun _ => ?_) (fun h => absurd (e9.trans e7.symm) h)
  exact W.widen (Nat.le_succ _) (Nat.le_add_right _ _) (kk σ' τ' fo H locs ls hI1 hj1 hP hD hS (lv_sub hl [0, 1, 2, 3, 4] rfl))

set_option maxHeartbeats 4000000 in
set_option maxRecDepth 100000 in
theorem wL_restart (hx : p.tables.exec = Jvm.exec) (hb : c.code = code) (hml : c.maxLocals = 7) (hown : s.vm.findClass jn_W = some m.cls) (ht : ∀ w ∈ jw_tbl, w.before args s = true) (hlf : l.flags = pinnedFlags ++ [noTraceFlag]) (hst : jT_st s) (hnc : jT_nc s) (hK : va_K D jw_cl ((cJ, .long) :: jL_ty cI cZ cG cC) s) (hR : 10 ≤ R.frames ∧ 340 ≤ R.locals) (hX : va_X b L xs s s.heap) (hbl : b < s.heap.size) (hL : L ≤ 2048) (hi4 : i + 4 ≤ L) (hI : jL_I (S, X, Y, M)) (hj : jr P S) (hP : va_P D jw_cl (((oo, .inl (cJ, 1, .inr (.inl fo))) :: jL_XW x f ad cI cZ cG cC (S, X, Y, M)) ++ jL_MW xm g cI cZ (P, tx, si, cd)) H) (hD : va_D (fun q => s.heap.size ≤ q) (((oo, .inl (cJ, 1, .inr (.inl fo))) :: jL_XW x f ad cI cZ cG cC (S, X, Y, M)) ++ jL_MW xm g cI cZ (P, tx, si, cd))) (hS : va_S (fun q => s.heap.size ≤ q) s.heap H locs) (hl : lv_has ls 7 [(0, .ref b), (1, .ref x), (2, .ref xm), (3, .ref oo), (4, .int (nI i))]) (hf : cells + 1 ≤ R.cells ∧ slots + 6 ≤ R.slots)
    (kk : ∀ (σ' : jL_T) (τ' : jL_U) (fo' : Nat → Int64) (H1 : Heap) (locs1 : List Loc) (ls1 : Array Slot), jL_I σ' → jr τ'.1 σ'.1 → va_P D jw_cl (((oo, .inl (cJ, 1, .inr (.inl fo'))) :: jL_XW x f ad cI cZ cG cC σ') ++ jL_MW xm g cI cZ τ') H1 → va_D (fun q => s.heap.size ≤ q) (((oo, .inl (cJ, 1, .inr (.inl fo'))) :: jL_XW x f ad cI cZ cG cC σ') ++ jL_MW xm g cI cZ τ') → va_S (fun q => s.heap.size ≤ q) s.heap H1 locs1 → lv_has ls1 7 [(0, .ref b), (1, .ref x), (2, .ref xm), (3, .ref oo), (4, .int (nI i))] → W p l e R s m args below meth c H1 locs1 (cells + 1) (slots + 6) Q (F0 m 789 ls1 [])) : W p l e R s m args below meth c H locs cells slots Q (F0 m 776 ls []) := by
  have hKx : va_K D jw_cl (jL_ty cI cZ cG cC) s := ⟨hK.1, fun k q h => hK.2 (k + 1) q h⟩
  have hKm : va_K D jw_cl [(cI, .int), (cZ, .boolean)] s := (hK.sub [1, 2] rfl)
  obtain ⟨r, S', h1, h2⟩ := pL_restart (l := l) (D := D) (x := x) (xm := xm) (f := f) (ad := ad) (g := g) (cI := cI) (cZ := cZ) (cG := cG) (cC := cC) (tx := tx) (si := si) (cd := cd) hI hj 
  refine lv_aload_n hx hb d_W_law_776 rfl (lv_at hl 1 rfl) ?_
  refine jL_cX (As := []) (rest := []) hx hb hml hown ht h1 o_J_restart k_W_117 rfl ⟨by omega, by omega⟩ hP hD hS (fun _ h => h) hKx rfl hl.1 rfl (Nat.le_of_ble_eq_true rfl) d_W_law_777 ⟨by omega, by omega⟩ (fun v9 σ' H locs h9 hP hD hS => ?_)
  obtain ⟨e9, hI1, e1⟩ := h9
  refine lv_aload_n hx hb d_W_law_780 rfl (lv_at hl 2 rfl) ?_
  refine jL_cM (As := []) (rest := [.int v9]) hx hb hml hown ht h2 o_M_restart k_W_120 rfl ⟨by omega, by omega⟩ hP hD hS (fun _ h => h) hKm rfl hl.1 rfl (Nat.le_of_ble_eq_true rfl) d_W_law_781 ⟨by omega, by omega⟩ (fun w9 τ' H locs h8 hP hD hS => ?_)
  obtain ⟨e7, h8⟩ := h8
  have hj1 : jr τ'.1 σ'.1 := by rw [e1]; exact h8
  refine lv_icmp_eq (tgt := 789) hx hb d_W_law_784 (by decide) (fun _ => ?_) (fun h => absurd (e9.trans e7.symm) h)
  exact W.widen (Nat.le_succ _) (Nat.le_add_right _ _) (kk σ' τ' fo H locs ls hI1 hj1 hP hD hS (lv_sub hl [0, 1, 2, 3, 4] rfl))

end JLV
