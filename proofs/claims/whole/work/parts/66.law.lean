theorem jL_lt4 {L i : Nat} (hL : L ≤ 2048) (hi : i ≤ L) (h : ¬ Int32.ofNat L - nI 4 < nI i) : i + 4 ≤ L := by
  have h1 : (nI L - nI 4).toInt = (L : Int) - (4 : Nat) := pk_sub_toInt (by omega) (by omega)
  have h2 : ¬ nI L - nI 4 < nI i := h
  rw [Int32.lt_iff_toInt_lt, h1, nI_toInt (by omega)] at h2
  omega
section JLO
variable {p : Program} {l : Launch} {e : Env} {R : Room} {s : State} {m : MethodId} {args : Array Value} {below : List Frame} {meth : Method} {c : Code} {H : Heap} {locs : List Loc} {cells slots : Nat} {Q : State → Prop}
variable {ls : Array Slot} {D : va_G} {x xm oo b L i : Nat} {xs : Nat → Int32} {f ad g : Nat → Nat} {cI cZ cG cC cJ : ClassId} {S : jt_S} {X : Nat → jt_X} {Y : jt_Y} {M : Nat → Nat → Int32} {P : jq_P} {tx : Nat → Int32} {si cd : Int32} {fo : Nat → Int64}
set_option maxHeartbeats 4000000 in
set_option maxRecDepth 100000 in
theorem jL_loop (hx : p.tables.exec = Jvm.exec) (hb : c.code = code) (hml : c.maxLocals = 7) (hown : s.vm.findClass jn_W = some m.cls) (ht : ∀ w ∈ jw_tbl, w.before args s = true) (hlf : l.flags = pinnedFlags ++ [noTraceFlag]) (hst : jT_st s) (hnc : jT_nc s) (hK : va_K D jw_cl ((cJ, .long) :: jL_ty cI cZ cG cC) s) (hR : 10 ≤ R.frames ∧ 340 ≤ R.locals) (hX : va_X b L xs s s.heap) (hbl : b < s.heap.size) (hL : L ≤ 2048) {CB SB : Nat} (hCB : CB ≤ R.cells) (hSB : SB ≤ R.slots) (hend : ∀ (cells slots : Nat) (H : Heap) (locs : List Loc) (ls : Array Slot), cells ≤ CB → slots ≤ SB → va_S (fun q => s.heap.size ≤ q) s.heap H locs → W p l e R s m args below meth c H locs cells slots Q (F0 m 795 ls [])) :
    ∀ (t i cells slots : Nat) (σ : jL_T) (τ : jL_U) (fo : Nat → Int64) (H : Heap) (locs : List Loc) (ls : Array Slot), L ≤ i + 3 + 4 * t → i ≤ L → cells + t ≤ CB → slots + 6 * t ≤ SB → jL_I σ → jr τ.1 σ.1 → va_P D jw_cl (((oo, .inl (cJ, 1, .inr (.inl fo))) :: jL_XW x f ad cI cZ cG cC σ) ++ jL_MW xm g cI cZ τ) H → va_D (fun q => s.heap.size ≤ q) (((oo, .inl (cJ, 1, .inr (.inl fo))) :: jL_XW x f ad cI cZ cG cC σ) ++ jL_MW xm g cI cZ τ) → va_S (fun q => s.heap.size ≤ q) s.heap H locs → lv_has ls 7 [(0, .ref b), (1, .ref x), (2, .ref xm), (3, .ref oo), (4, .int (nI i))] → W p l e R s m args below meth c H locs cells slots Q (F0 m 23 ls []) := by
  intro t
  induction t with
  | zero =>
    intro i cells slots σ τ fo H locs ls h1 h2 h3 h4 hI hj hP hD hS hl
    refine lv_iload hx hb d_W_law_23 (lv_at hl 4 rfl) ?_
    refine lv_aload_n hx hb d_W_law_25 rfl (lv_at hl 0 rfl) ?_
    refine va_slen hx hb hX hbl (Nat.not_le.mpr hbl) hS d_W_law_26 ?_
    refine lv_iconst (v := nI 4) hx hb d_W_law_27 (by decide) ?_
    refine lv_isub hx hb d_W_law_28 ?_
    refine lv_icmp_gt (tgt := 795) hx hb d_W_law_29 (by decide) (fun _ => hend _ _ _ _ _ (by omega) (by omega) hS) (fun h => ?_)
    exact absurd (jL_lt4 hL h2 h) (by omega)
  | succ t ih =>
    intro i cells slots σ τ fo H locs ls h1 h2 h3 h4 hI hj hP hD hS hl
    refine lv_iload hx hb d_W_law_23 (lv_at hl 4 rfl) ?_
    refine lv_aload_n hx hb d_W_law_25 rfl (lv_at hl 0 rfl) ?_
    refine va_slen hx hb hX hbl (Nat.not_le.mpr hbl) hS d_W_law_26 ?_
    refine lv_iconst (v := nI 4) hx hb d_W_law_27 (by decide) ?_
    refine lv_isub hx hb d_W_law_28 ?_
    refine lv_icmp_gt (tgt := 795) hx hb d_W_law_29 (by decide) (fun _ => hend _ _ _ _ _ (by omega) (by omega) hS) (fun h => ?_)
    have hi4 : i + 4 ≤ L := jL_lt4 hL h2 h
    have hf : cells + 1 ≤ R.cells ∧ slots + 6 ≤ R.slots := ⟨by omega, by omega⟩
    have kk : ∀ (σ' : jL_T) (τ' : jL_U) (fo' : Nat → Int64) (H1 : Heap) (locs1 : List Loc) (ls1 : Array Slot), jL_I σ' → jr τ'.1 σ'.1 → va_P D jw_cl (((oo, .inl (cJ, 1, .inr (.inl fo'))) :: jL_XW x f ad cI cZ cG cC σ') ++ jL_MW xm g cI cZ τ') H1 → va_D (fun q => s.heap.size ≤ q) (((oo, .inl (cJ, 1, .inr (.inl fo'))) :: jL_XW x f ad cI cZ cG cC σ') ++ jL_MW xm g cI cZ τ') → va_S (fun q => s.heap.size ≤ q) s.heap H1 locs1 → lv_has ls1 7 [(0, .ref b), (1, .ref x), (2, .ref xm), (3, .ref oo), (4, .int (nI i))] → W p l e R s m args below meth c H1 locs1 (cells + 1) (slots + 6) Q (F0 m 789 ls1 []) := by
      intro σ' τ' fo' H1 locs1 ls1 hI1 hj1 hP1 hD1 hS1 hl1
      refine lv_iinc (v := nI (i + 4)) (lv' := [(4, .int (nI (i + 4))), (0, .ref b), (1, .ref x), (2, .ref xm), (3, .ref oo)]) hx hb d_W_law_789 hl1 (k := 4) rfl (show nI _ + Int32.ofInt 4 = nI _ from nI_add _ 4) (by decide) rfl (fun ls hl => ?_)
      refine lv_goto (tgt := 23) hx hb d_W_law_792 (by decide) ?_
      exact ih (i + 4) (cells + 1) (slots + 6) σ' τ' fo' H1 locs1 ls (by omega) (by omega) (by omega) (by omega) hI1 hj1 hP1 hD1 hS1 (lv_sub hl [1, 2, 3, 4, 0] rfl)
    refine lv_aload_n hx hb d_W_law_32 rfl (lv_at hl 0 rfl) ?_
    refine lv_iload hx hb d_W_law_33 (lv_at hl 4 rfl) ?_
    refine va_sld hx hb hX hbl (Nat.not_le.mpr hbl) hS (vp_in_nI (n := i) (by omega) (by omega)) d_W_law_35 ?_
    refine lv_bipush (v := nI 31) hx hb d_W_law_36 (by decide) ?_
    refine lv_iand hx hb d_W_law_38 ?_
    refine lv_topi (fun q eq => ?_)
    obtain ⟨j, hj32, ej⟩ := pk_andE (xs (nI i).toNatClampNeg) (m := nI 31) 5 (by decide)
    obtain rfl : q = nI j := eq.trans ej
    clear eq ej
    obtain ⟨S, X, Y, M⟩ := σ
    obtain ⟨P, tx, si, cd⟩ := τ
    have hj : jr P S := hj
    rcases (by omega : j = 0 ∨ j = 1 ∨ j = 2 ∨ j = 3 ∨ j = 4 ∨ j = 5 ∨ j = 6 ∨ j = 7 ∨ j = 8 ∨ j = 9 ∨ j = 10 ∨ j = 11 ∨ j = 12 ∨ j = 13 ∨ j = 14 ∨ j = 15 ∨ j = 16 ∨ j = 17 ∨ j = 18 ∨ 19 ≤ j) with e9 | e9 | e9 | e9 | e9 | e9 | e9 | e9 | e9 | e9 | e9 | e9 | e9 | e9 | e9 | e9 | e9 | e9 | e9 | e9
    · subst e9
      refine lv_tableIn (off := 89) (tgt := 128) hx hb d_W_law_39 (by decide) (by decide) (by decide) (by decide) ?_
      exact wL_insert hx hb hml hown ht hlf hst hnc hK hR hX hbl hL hi4 hI hj hP hD hS hl hf kk
    · subst e9
      refine lv_tableIn (off := 169) (tgt := 208) hx hb d_W_law_39 (by decide) (by decide) (by decide) (by decide) ?_
      exact wL_erase hx hb hml hown ht hlf hst hnc hK hR hX hbl hL hi4 hI hj hP hD hS hl hf kk
    · subst e9
      refine lv_tableIn (off := 237) (tgt := 276) hx hb d_W_law_39 (by decide) (by decide) (by decide) (by decide) ?_
      exact wL_undo hx hb hml hown ht hlf hst hnc hK hR hX hbl hL hi4 hI hj hP hD hS hl hf kk
    · subst e9
      refine lv_tableIn (off := 293) (tgt := 332) hx hb d_W_law_39 (by decide) (by decide) (by decide) (by decide) ?_
      exact wL_length hx hb hml hown ht hlf hst hnc hK hR hX hbl hL hi4 hI hj hP hD hS hl hf kk
    · subst e9
      refine lv_tableIn (off := 318) (tgt := 357) hx hb d_W_law_39 (by decide) (by decide) (by decide) (by decide) ?_
      exact wL_character hx hb hml hown ht hlf hst hnc hK hR hX hbl hL hi4 hI hj hP hD hS hl hf kk
    · subst e9
      refine lv_tableIn (off := 386) (tgt := 425) hx hb d_W_law_39 (by decide) (by decide) (by decide) (by decide) ?_
      exact wL_revision hx hb hml hown ht hlf hst hnc hK hR hX hbl hL hi4 hI hj hP hD hS hl hf kk
    · subst e9
      refine lv_tableIn (off := 411) (tgt := 450) hx hb d_W_law_39 (by decide) (by decide) (by decide) (by decide) ?_
      exact wL_pending hx hb hml hown ht hlf hst hnc hK hR hX hbl hL hi4 hI hj hP hD hS hl hf kk
    · subst e9
      refine lv_tableIn (off := 436) (tgt := 475) hx hb d_W_law_39 (by decide) (by decide) (by decide) (by decide) ?_
      exact wL_op hx hb hml hown ht hlf hst hnc hK hR hX hbl hL hi4 hI hj hP hD hS hl hf kk
    · subst e9
      refine lv_tableIn (off := 473) (tgt := 512) hx hb d_W_law_39 (by decide) (by decide) (by decide) (by decide) ?_
      exact wL_waiting hx hb hml hown ht hlf hst hnc hK hR hX hbl hL hi4 hI hj hP hD hS hl hf kk
    · subst e9
      refine lv_tableIn (off := 486) (tgt := 525) hx hb d_W_law_39 (by decide) (by decide) (by decide) (by decide) ?_
      exact wL_message hx hb hml hown ht hlf hst hnc hK hR hX hbl hL hi4 hI hj hP hD hS hl hf kk
    · subst e9
      refine lv_tableIn (off := 523) (tgt := 562) hx hb d_W_law_39 (by decide) (by decide) (by decide) (by decide) ?_
      exact wL_deliver hx hb hml hown ht hlf hst hnc hK hR hX hbl hL hi4 hI hj hP hD hS hl hf kk
    · subst e9
      refine lv_tableIn (off := 548) (tgt := 587) hx hb d_W_law_39 (by decide) (by decide) (by decide) (by decide) ?_
      exact wL_lose hx hb hml hown ht hlf hst hnc hK hR hX hbl hL hi4 hI hj hP hD hS hl hf kk
    · subst e9
      refine lv_tableIn (off := 573) (tgt := 612) hx hb d_W_law_39 (by decide) (by decide) (by decide) (by decide) ?_
      exact wL_repeat hx hb hml hown ht hlf hst hnc hK hR hX hbl hL hi4 hI hj hP hD hS hl hf kk
    · subst e9
      refine lv_tableIn (off := 598) (tgt := 637) hx hb d_W_law_39 (by decide) (by decide) (by decide) (by decide) ?_
      exact wL_harm hx hb hml hown ht hlf hst hnc hK hR hX hbl hL hi4 hI hj hP hD hS hl hf kk
    · subst e9
      refine lv_tableIn (off := 635) (tgt := 674) hx hb d_W_law_39 (by decide) (by decide) (by decide) (by decide) ?_
      exact wL_tick hx hb hml hown ht hlf hst hnc hK hR hX hbl hL hi4 hI hj hP hD hS hl hf kk
    · subst e9
      refine lv_tableIn (off := 646) (tgt := 685) hx hb d_W_law_39 (by decide) (by decide) (by decide) (by decide) ?_
      exact wL_connect hx hb hml hown ht hlf hst hnc hK hR hX hbl hL hi4 hI hj hP hD hS hl hf kk
    · subst e9
      refine lv_tableIn (off := 699) (tgt := 738) hx hb d_W_law_39 (by decide) (by decide) (by decide) (by decide) ?_
      exact wL_trip hx hb hml hown ht hlf hst hnc hK hR hX hbl hL hi4 hI hj hP hD hS hl hf kk
    · subst e9
      refine lv_tableIn (off := 724) (tgt := 763) hx hb d_W_law_39 (by decide) (by decide) (by decide) (by decide) ?_
      exact wL_crash hx hb hml hown ht hlf hst hnc hK hR hX hbl hL hi4 hI hj hP hD hS hl hf kk
    · subst e9
      refine lv_tableIn (off := 737) (tgt := 776) hx hb d_W_law_39 (by decide) (by decide) (by decide) (by decide) ?_
      exact wL_restart hx hb hml hown ht hlf hst hnc hK hR hX hbl hL hi4 hI hj hP hD hS hl hf kk
    · refine lv_tableOut (tgt := 789) hx hb d_W_law_39 (Or.inr (by rw [nI_toInt (by omega)]; omega)) (by decide) ?_
      exact W.widen (Nat.le_succ _) (Nat.le_add_right _ _) (kk (S, X, Y, M) (P, tx, si, cd) fo H locs ls hI hj hP hD hS hl)
end JLO
