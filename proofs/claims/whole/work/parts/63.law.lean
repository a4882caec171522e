section JLQ
variable {l : Launch} {D : va_G} {x xm : Nat} {f ad g : Nat → Nat} {cI cZ cG cC : ClassId} {S : jt_S} {X : Nat → jt_X} {Y : jt_Y} {M : Nat → Nat → Int32} {P : jq_P} {tx : Nat → Int32} {si cd : Int32} {oo : Nat} {cJ : ClassId}
set_option maxHeartbeats 4000000 in
set_option maxRecDepth 100000 in
theorem pL_insert (hlf : l.flags = pinnedFlags ++ [noTraceFlag]) (hI : jL_I (S, X, Y, M)) (hj : jr P S) (v w u : Int32) : jL_B l D x f ad cI cZ cG cC xm g oo cJ y_W_insert ww_insert [.ref x, .int v, .int w, .int u, .ref oo] y_M_insert w_M_insert [.int v, .int w, .int u] (S, X, Y, M) (P, tx, si, cd) := by
  have hi : jt_inv S := hI.1.1
  have hx : ∀ c, c < 3 → jt_rc (X c) (js_cl S c) := hI.2.1
  have hy : jt_rv Y S := hI.2.2.1
  have hm : jt_rm M (js_L S) := hI.2.2.2
  have hwr9 : jp_wr P = js_N S := hj.1.1
  have hwr : jp_wr P ≤ 60 := by have := hi.1.1; omega
  have hwa : jp_wa P = (js_L S).2 := hj.2.2.1
  have hw0 : jp_wa P ≤ 30 := by have := hi.2.2.1; omega
  have hdn : jp_dn P = 1 - js_up S := hj.1.2.2.2.1
  have htr : jp_tr P = js_tr S := hj.1.2.2.2.2
  have hup : js_up S ≤ 1 := hi.1.2.2.2.1
  rcases jL_cd v with h | ⟨c, hc, rfl⟩
  · exact Or.inl ⟨1, by decide, by decide, jL_wt_insert_1 (tL_insert_a1 hlf hI v w u h.1), jL_ofM (fun sz => m_M_insert_a1 l D sz xm g cI cZ (jp_O P) (jp_num P) (jp_au P) (jp_rv P) (jp_of P) (jp_pn P) (jp_bk P) (jp_lg P) (jp_wh P) (jp_ms P) (jp_wr P) (jp_dn P) (jp_tr P) (jp_wa P) tx si cd v w u h.2) rfl rfl (Nat.le_of_ble_eq_true rfl) (Nat.le_of_ble_eq_true rfl) (fun r u hp => ⟨(P, tx, si, nI 1), ⟨hj, rfl⟩, rfl⟩)⟩
  · skip
    obtain ⟨⟨c1, c2, c3, c4, c5⟩, c6, c7⟩ := hj.2.1 c hc
    obtain ⟨b1, b2, b3, b4, b5⟩ := jr_ln hi hc
    have hlg : jp_lg P c ≤ 80 := by omega
    have hok := jr_cOK (hj.2.1 c hc) (hi.2.1 c hc)
    have htx := jr_ctx (hj.2.1 c hc)
    rcases jL_rgd u with hu | ⟨ch, hch, rfl⟩
    · exact Or.inl ⟨1, by decide, by decide, jL_wt_insert_1 (tL_insert_a2 hlf hI hc w u hu), jL_ofM (fun sz => m_M_insert_a2 l D sz xm g cI cZ (jp_O P) (jp_num P) (jp_au P) (jp_rv P) (jp_of P) (jp_pn P) (jp_bk P) (jp_lg P) (jp_wh P) (jp_ms P) (jp_wr P) (jp_dn P) (jp_tr P) (jp_wa P) tx si cd c hc w u hu) rfl rfl (Nat.le_of_ble_eq_true rfl) (Nat.le_of_ble_eq_true rfl) (fun r u hp => ⟨(P, tx, si, nI 1), ⟨hj, rfl⟩, rfl⟩)⟩
    · rcases jL_led w (jc_tx (js_cl S c)).2 (by have := jL_t68 hi hc; omega) with hw | ⟨p, hp9, rfl⟩
      · exact Or.inl ⟨2, by decide, by decide, jL_wt_insert_2 (tL_insert_i hlf hI hc ch hch w hw), jL_ofM (fun sz => m_M_insert_i l D sz xm g cI cZ (jp_O P) (jp_num P) (jp_au P) (jp_rv P) (jp_of P) (jp_pn P) (jp_bk P) (jp_lg P) (jp_wh P) (jp_ms P) (jp_wr P) (jp_dn P) (jp_tr P) (jp_wa P) tx si cd c hc hlg hok ch hch w (by rw [htx]; exact hw)) rfl rfl (Nat.le_of_ble_eq_true rfl) (Nat.le_of_ble_eq_true rfl) (fun r u hp => ⟨(P, u, nI ((jt_tx (jq_at (jp_O P) (60 + 80 * c)) ((jp_lg P) c)).2), nI 2), ⟨hj, rfl⟩, rfl⟩)⟩
      · by_cases hf : 8 ≤ jc_pn (js_cl S c) ∨ 60 ≤ (jc_tx (js_cl S c)).2
        · exact Or.inl ⟨3, by decide, by decide, jL_wt_insert_3 (tL_insert_s hlf hI hc ch p hch hp9 hf), jL_ofM (fun sz => m_M_insert_s l D sz xm g cI cZ (jp_O P) (jp_num P) (jp_au P) (jp_rv P) (jp_of P) (jp_pn P) (jp_bk P) (jp_lg P) (jp_wh P) (jp_ms P) (jp_wr P) (jp_dn P) (jp_tr P) (jp_wa P) tx si cd c hc hlg hok ch hch p (by rw [htx]; exact hp9) (by omega) (by rw [htx]; omega)) rfl rfl (Nat.le_of_ble_eq_true rfl) (Nat.le_of_ble_eq_true rfl) (fun r u hp => ⟨(P, u, nI ((jt_tx (jq_at (jp_O P) (60 + 80 * c)) ((jp_lg P) c)).2), nI 3), ⟨hj, rfl⟩, rfl⟩)⟩
        · have hpn : jc_pn (js_cl S c) < 8 := by omega
          have hok9 : jt_ok (jc_tx (js_cl S c)).2 (1, p, ch, c) := ⟨by show 1 ≤ 2; decide, fun _ => hp9, fun z => absurd (show 1 = 2 from z) (by decide), fun z => absurd (show 1 = 0 from z) (by decide)⟩
          have hin := jL_inv_mk (o := (1, p, ch, c)) (fl := 1) hI.1 hc hpn hok9 ⟨by show ch < 128; omega, hc⟩ rfl (fun _ => by show 1 ≠ 0; decide) (by decide)
          have hjm : jr (jq_mkP P (va_up (jp_O P) 356 (1, p, ch, c)) c 1 0) (jt_s_mk S c (1, p, ch, c) 1) := by
            have z := jr_mk (O1 := va_up (jp_O P) 356 (1, p, ch, c)) (c := c) (fl := 1) (w := 0) hj hi hc hpn (fun i e => va_up_ne _ _ e) (fun e _ => by rw [va_up_self] at e; exact absurd (show 1 = 2 from e) (by decide))
            rw [va_up_self (jp_O P) 356 (1, p, ch, c)] at z
            exact z
          exact Or.inr ⟨_, _, jL_ws_insert (xL_insert_y hI hc ch p hch hp9 (by omega) hpn hok9 hin), jL_ofM (fun sz => m_M_insert_y l D sz xm g cI cZ (jp_O P) (jp_num P) (jp_au P) (jp_rv P) (jp_of P) (jp_pn P) (jp_bk P) (jp_lg P) (jp_wh P) (jp_ms P) (jp_wr P) (jp_dn P) (jp_tr P) (jp_wa P) tx si cd c hc hlg hok ch hch p (by rw [htx]; exact hp9) (by rw [htx]; omega) (by omega) (by omega) (by omega) hw0) rfl rfl (Nat.le_of_ble_eq_true rfl) (Nat.le_of_ble_eq_true rfl) (fun r u hp => ⟨(jq_mkP P (va_up (jp_O P) 356 (1, p, ch, c)) c 1 0, u, nI ((jt_tx (jq_at (jp_O P) (60 + 80 * c)) ((jp_lg P) c)).2), nI 0), ⟨hp.trans (by rw [c3]), hjm, rfl⟩, rfl⟩)⟩

set_option maxHeartbeats 4000000 in
set_option maxRecDepth 100000 in
theorem pL_erase (hlf : l.flags = pinnedFlags ++ [noTraceFlag]) (hI : jL_I (S, X, Y, M)) (hj : jr P S) (v w : Int32) : jL_B l D x f ad cI cZ cG cC xm g oo cJ y_W_erase ww_erase [.ref x, .int v, .int w, .ref oo] y_M_erase w_M_erase [.int v, .int w] (S, X, Y, M) (P, tx, si, cd) := by
  have hi : jt_inv S := hI.1.1
  have hx : ∀ c, c < 3 → jt_rc (X c) (js_cl S c) := hI.2.1
  have hy : jt_rv Y S := hI.2.2.1
  have hm : jt_rm M (js_L S) := hI.2.2.2
  have hwr9 : jp_wr P = js_N S := hj.1.1
  have hwr : jp_wr P ≤ 60 := by have := hi.1.1; omega
  have hwa : jp_wa P = (js_L S).2 := hj.2.2.1
  have hw0 : jp_wa P ≤ 30 := by have := hi.2.2.1; omega
  have hdn : jp_dn P = 1 - js_up S := hj.1.2.2.2.1
  have htr : jp_tr P = js_tr S := hj.1.2.2.2.2
  have hup : js_up S ≤ 1 := hi.1.2.2.2.1
  rcases jL_cd v with h | ⟨c, hc, rfl⟩
  · exact Or.inl ⟨1, by decide, by decide, jL_wt_erase_1 (tL_erase_a hlf hI v w h.1), jL_ofM (fun sz => m_M_erase_a l D sz xm g cI cZ (jp_O P) (jp_num P) (jp_au P) (jp_rv P) (jp_of P) (jp_pn P) (jp_bk P) (jp_lg P) (jp_wh P) (jp_ms P) (jp_wr P) (jp_dn P) (jp_tr P) (jp_wa P) tx si cd v w h.2) rfl rfl (Nat.le_of_ble_eq_true rfl) (Nat.le_of_ble_eq_true rfl) (fun r u hp => ⟨(P, tx, si, nI 1), ⟨hj, rfl⟩, rfl⟩)⟩
  · skip
    obtain ⟨⟨c1, c2, c3, c4, c5⟩, c6, c7⟩ := hj.2.1 c hc
    obtain ⟨b1, b2, b3, b4, b5⟩ := jr_ln hi hc
    have hlg : jp_lg P c ≤ 80 := by omega
    have hok := jr_cOK (hj.2.1 c hc) (hi.2.1 c hc)
    have htx := jr_ctx (hj.2.1 c hc)
    rcases jL_ixd w (jc_tx (js_cl S c)).2 (by have := jL_t68 hi hc; omega) with hw | ⟨p, hp9, rfl⟩
    · exact Or.inl ⟨2, by decide, by decide, jL_wt_erase_2 (tL_erase_i hlf hI hc w hw.1), jL_ofM (fun sz => m_M_erase_i l D sz xm g cI cZ (jp_O P) (jp_num P) (jp_au P) (jp_rv P) (jp_of P) (jp_pn P) (jp_bk P) (jp_lg P) (jp_wh P) (jp_ms P) (jp_wr P) (jp_dn P) (jp_tr P) (jp_wa P) tx si cd c hc hlg hok w (by rw [htx]; exact hw.2.2)) rfl rfl (Nat.le_of_ble_eq_true rfl) (Nat.le_of_ble_eq_true rfl) (fun r u hp => ⟨(P, u, nI ((jt_tx (jq_at (jp_O P) (60 + 80 * c)) ((jp_lg P) c)).2), nI 2), ⟨hj, rfl⟩, rfl⟩)⟩
    · by_cases hf : 8 ≤ jc_pn (js_cl S c)
      · exact Or.inl ⟨3, by decide, by decide, jL_wt_erase_3 (tL_erase_s hlf hI hc p hp9 hf), jL_ofM (fun sz => m_M_erase_s l D sz xm g cI cZ (jp_O P) (jp_num P) (jp_au P) (jp_rv P) (jp_of P) (jp_pn P) (jp_bk P) (jp_lg P) (jp_wh P) (jp_ms P) (jp_wr P) (jp_dn P) (jp_tr P) (jp_wa P) tx si cd c hc hlg hok p (by rw [htx]; exact hp9) (by omega)) rfl rfl (Nat.le_of_ble_eq_true rfl) (Nat.le_of_ble_eq_true rfl) (fun r u hp => ⟨(P, u, nI ((jt_tx (jq_at (jp_O P) (60 + 80 * c)) ((jp_lg P) c)).2), nI 3), ⟨hj, rfl⟩, rfl⟩)⟩
      · have hpn : jc_pn (js_cl S c) < 8 := by omega
        have hok9 : jt_ok (jc_tx (js_cl S c)).2 (2, p, 0, c) := ⟨by show 2 ≤ 2; decide, fun z => absurd (show 2 = 1 from z) (by decide), fun _ => hp9, fun z => absurd (show 2 = 0 from z) (by decide)⟩
        have hin := jL_inv_mk (o := (2, p, 0, c)) (fl := 1) hI.1 hc hpn hok9 ⟨by show 0 < 128; decide, hc⟩ rfl (fun _ => by show 2 ≠ 0; decide) (by decide)
        have hjm : jr (jq_mkP P (va_up (jp_O P) 356 (2, p, 0, c)) c 1 ((jt_tx (jq_at (jp_O P) (60 + 80 * c)) (jp_lg P c)).1 p)) (jt_s_mk S c (2, p, 0, c) 1) := by
          have z := jr_mk (O1 := va_up (jp_O P) 356 (2, p, 0, c)) (c := c) (fl := 1) (w := ((jt_tx (jq_at (jp_O P) (60 + 80 * c)) (jp_lg P c)).1 p)) hj hi hc hpn (fun i e => va_up_ne _ _ e) (fun _ _ => by rw [va_up_self, htx]; rfl)
          rw [va_up_self (jp_O P) 356 (2, p, 0, c)] at z
          exact z
        exact Or.inr ⟨_, _, jL_ws_erase (xL_erase_y hI hc p hp9 hpn hok9 hin), jL_ofM (fun sz => m_M_erase_y l D sz xm g cI cZ (jp_O P) (jp_num P) (jp_au P) (jp_rv P) (jp_of P) (jp_pn P) (jp_bk P) (jp_lg P) (jp_wh P) (jp_ms P) (jp_wr P) (jp_dn P) (jp_tr P) (jp_wa P) tx si cd c hc hlg hok p (by rw [htx]; exact hp9) (by omega) (by omega) (by omega) hw0) rfl rfl (Nat.le_of_ble_eq_true rfl) (Nat.le_of_ble_eq_true rfl) (fun r u hp => ⟨(jq_mkP P (va_up (jp_O P) 356 (2, p, 0, c)) c 1 ((jt_tx (jq_at (jp_O P) (60 + 80 * c)) (jp_lg P c)).1 p), u, nI ((jt_tx (jq_at (jp_O P) (60 + 80 * c)) ((jp_lg P) c)).2), nI 0), ⟨hp.trans (by rw [c3]), hjm, rfl⟩, rfl⟩)⟩

set_option maxHeartbeats 4000000 in
set_option maxRecDepth 100000 in
theorem pL_undo (hlf : l.flags = pinnedFlags ++ [noTraceFlag]) (hI : jL_I (S, X, Y, M)) (hj : jr P S) (v : Int32) : jL_B l D x f ad cI cZ cG cC xm g oo cJ y_W_undo ww_undo [.ref x, .int v, .ref oo] y_M_undo w_M_undo [.int v] (S, X, Y, M) (P, tx, si, cd) := by
  have hi : jt_inv S := hI.1.1
  have hx : ∀ c, c < 3 → jt_rc (X c) (js_cl S c) := hI.2.1
  have hy : jt_rv Y S := hI.2.2.1
  have hm : jt_rm M (js_L S) := hI.2.2.2
  have hwr9 : jp_wr P = js_N S := hj.1.1
  have hwr : jp_wr P ≤ 60 := by have := hi.1.1; omega
  have hwa : jp_wa P = (js_L S).2 := hj.2.2.1
  have hw0 : jp_wa P ≤ 30 := by have := hi.2.2.1; omega
  have hdn : jp_dn P = 1 - js_up S := hj.1.2.2.2.1
  have htr : jp_tr P = js_tr S := hj.1.2.2.2.2
  have hup : js_up S ≤ 1 := hi.1.2.2.2.1
  rcases jL_cd v with h | ⟨c, hc, rfl⟩
  · exact Or.inl ⟨1, by decide, by decide, jL_wt_undo_1 (tL_undo_a hlf hI v h.1), jL_ofM (fun sz => m_M_undo_a l D sz xm g cI cZ (jp_O P) (jp_num P) (jp_au P) (jp_rv P) (jp_of P) (jp_pn P) (jp_bk P) (jp_lg P) (jp_wh P) (jp_ms P) (jp_wr P) (jp_dn P) (jp_tr P) (jp_wa P) tx si cd v h.2) rfl rfl (Nat.le_of_ble_eq_true rfl) (Nat.le_of_ble_eq_true rfl) (fun r u hp => ⟨(P, tx, si, nI 1), ⟨hj, rfl⟩, rfl⟩)⟩
  · skip
    obtain ⟨⟨c1, c2, c3, c4, c5⟩, c6, c7⟩ := hj.2.1 c hc
    obtain ⟨b1, b2, b3, b4, b5⟩ := jr_ln hi hc
    have hlg : jp_lg P c ≤ 80 := by omega
    have hok := jr_cOK (hj.2.1 c hc) (hi.2.1 c hc)
    have htx := jr_ctx (hj.2.1 c hc)
    rcases hla : jt_la (jc_lf (js_cl S c)) (jc_ln (js_cl S c)) with _ | j
    · exact Or.inl ⟨2, by decide, by decide, jL_wt_undo_2 (tL_undo_n hlf hI hc hla), jL_ofM (fun sz => m_M_undo_n l D sz xm g cI cZ (jp_O P) (jp_num P) (jp_au P) (jp_rv P) (jp_of P) (jp_pn P) (jp_bk P) (jp_lg P) (jp_wh P) (jp_ms P) (jp_wr P) (jp_dn P) (jp_tr P) (jp_wa P) tx si cd c hc hlg (fun i h => by rw [jr_wh (hj.2.1 c hc) i h]; exact hI.1.2 c hc i) (fun i h => by rw [jr_wh (hj.2.1 c hc) i h]; exact jt_la_none hla i (by omega))) rfl rfl (Nat.le_of_ble_eq_true rfl) (Nat.le_of_ble_eq_true rfl) (fun r u hp => ⟨(P, tx, si, nI 2), ⟨hj, rfl⟩, rfl⟩)⟩
    · obtain ⟨j1, j2, j3⟩ := jt_la_some hla
      by_cases hf : 8 ≤ jc_pn (js_cl S c) ∨ 60 ≤ (jc_tx (js_cl S c)).2
      · exact Or.inl ⟨3, by decide, by decide, jL_wt_undo_3 (tL_undo_s hlf hI hc j hla hf), jL_ofM (fun sz => m_M_undo_s l D sz xm g cI cZ (jp_O P) (jp_num P) (jp_au P) (jp_rv P) (jp_of P) (jp_pn P) (jp_bk P) (jp_lg P) (jp_wh P) (jp_ms P) (jp_wr P) (jp_dn P) (jp_tr P) (jp_wa P) tx si cd c hc hlg (fun i h => by rw [jr_wh (hj.2.1 c hc) i h]; exact hI.1.2 c hc i) hok j (by omega) (by rw [jr_wh (hj.2.1 c hc) j (by omega)]; exact j2) (fun i h h2 => by rw [jr_wh (hj.2.1 c hc) i h2]; exact j3 i h (by omega)) (by omega) (by rw [htx]; omega)) rfl rfl (Nat.le_of_ble_eq_true rfl) (Nat.le_of_ble_eq_true rfl) (fun r u hp => ⟨(P, u, nI ((jt_tx (jq_at (jp_O P) (60 + 80 * c)) ((jp_lg P) c)).2), nI 3), ⟨hj, rfl⟩, rfl⟩)⟩
      · have hpn : jc_pn (js_cl S c) < 8 := by omega
        have hbo : (jq_rm (va_up (jp_O P) 356 (jq_iv (jp_O P) (60 + 80 * c + j) c)) (60 + 80 * c + j + 1) (jp_lg P c - (j + 1))) 356 = jt_bo (js_cl S c) j := by
          rw [c5]
          exact jr_bo (hj.2.1 c hc) (hi.2.1 c hc) hc (by omega) j1 j2 _ (Nat.le_refl _)
        obtain ⟨o1, o2, o3⟩ := jt_bo_ok (hi.2.1 c hc) j1 j2
        have hj9 := jr_ud hj hi hc j1
        have hO9 : ∀ i, i ≠ 356 → (jq_rm (va_up (jp_O P) 356 (jq_iv (jp_O P) (60 + 80 * c + j) c)) (60 + 80 * c + j + 1) (jp_lg P c - (j + 1))) i = jp_O P i := fun i e => (jq_rm_out e _).trans (va_up_ne _ _ e)
        by_cases hz : (jt_bo (js_cl S c) j).1 = 0
        · exact Or.inr ⟨_, _, jL_ws_undo (xL_undo_z hI hc j hla hpn (by omega) hz (jL_inv_ud hI.1 hc)), jL_ofM (fun sz => m_M_undo_z l D sz xm g cI cZ (jp_O P) (jp_num P) (jp_au P) (jp_rv P) (jp_of P) (jp_pn P) (jp_bk P) (jp_lg P) (jp_wh P) (jp_ms P) (jp_wr P) (jp_dn P) (jp_tr P) (jp_wa P) tx si cd c hc hlg (fun i h => by rw [jr_wh (hj.2.1 c hc) i h]; exact hI.1.2 c hc i) hok j (by omega) (by rw [jr_wh (hj.2.1 c hc) j (by omega)]; exact j2) (fun i h h2 => by rw [jr_wh (hj.2.1 c hc) i h2]; exact j3 i h (by omega)) (by omega) (by rw [htx]; omega) ((jr_ups (hj.2.1 c hc) (hi.2.1 c hc) b2 j (by omega)).2) (jr_usm (hj.2.1 c hc) (hi.2.1 c hc) hi.1.1 hc b2 j1 j2) (jr_ups (hj.2.1 c hc) (hi.2.1 c hc) b2) (by rw [hbo]; exact hz)) rfl rfl (Nat.le_of_ble_eq_true rfl) (Nat.le_of_ble_eq_true rfl) (fun r u hp => ⟨((jq_rm (va_up (jp_O P) 356 (jq_iv (jp_O P) (60 + 80 * c + j) c)) ((60 + 80 * c + j) + 1) ((jp_lg P) c - (j + 1)), (jp_num P), (jp_au P), (jp_rv P), (jp_of P), (jp_pn P), (jp_bk P), (jp_lg P), va_up (jp_wh P) (80 * c + j) 3, (jp_ms P), (jp_wr P), (jp_dn P), (jp_tr P), (jp_wa P)), u, nI ((jt_tx (jq_at (jp_O P) (60 + 80 * c)) ((jp_lg P) c)).2), nI 0), ⟨hp, jr_wO (O2 := (jq_rm (va_up (jp_O P) 356 (jq_iv (jp_O P) (60 + 80 * c + j) c)) (60 + 80 * c + j + 1) (jp_lg P c - (j + 1)))) hj9 (jt_inv_ud hi) (fun i h => hO9 i (by omega)), rfl⟩, rfl⟩)⟩
        · have hcc : js_cl (jt_s_ud S c j) c = jt_ud (js_cl S c) j := va_up_self _ _ _
          have hin := jL_inv_mk (S := jt_s_ud S c j) (o := jt_bo (js_cl S c) j) (fl := 2) (jL_inv_ud hI.1 hc) hc (by rw [hcc]; exact hpn) (by rw [hcc]; exact o1) o2 o3 (fun z => absurd z (by decide)) (by decide)
          have hjm : jr (jq_mkP (jp_O P, jp_num P, jp_au P, jp_rv P, jp_of P, jp_pn P, jp_bk P, jp_lg P, va_up (jp_wh P) (80 * c + j) 3, jp_ms P, jp_wr P, jp_dn P, jp_tr P, jp_wa P) (jq_rm (va_up (jp_O P) 356 (jq_iv (jp_O P) (60 + 80 * c + j) c)) (60 + 80 * c + j + 1) (jp_lg P c - (j + 1))) c 2 (if (jp_O P (60 + 80 * c + j)).1 = 1 then (jt_tx (jq_at (jp_O P) (60 + 80 * c)) (jp_lg P c)).1 ((jq_rm (va_up (jp_O P) 356 (jq_iv (jp_O P) (60 + 80 * c + j) c)) (60 + 80 * c + j + 1) (jp_lg P c - (j + 1))) 356).2.1 else 0)) (jt_s_mk (jt_s_ud S c j) c (jt_bo (js_cl S c) j) 2) := by
            have z := jr_mk (O1 := (jq_rm (va_up (jp_O P) 356 (jq_iv (jp_O P) (60 + 80 * c + j) c)) (60 + 80 * c + j + 1) (jp_lg P c - (j + 1)))) (c := c) (fl := 2) (w := (if (jp_O P (60 + 80 * c + j)).1 = 1 then (jt_tx (jq_at (jp_O P) (60 + 80 * c)) (jp_lg P c)).1 ((jq_rm (va_up (jp_O P) 356 (jq_iv (jp_O P) (60 + 80 * c + j) c)) (60 + 80 * c + j + 1) (jp_lg P c - (j + 1))) 356).2.1 else 0)) hj9 (jt_inv_ud hi) hc (by rw [hcc]; exact hpn) hO9 (fun _ z => absurd z (by decide))
            rw [hbo] at z
            rw [hbo]
            exact z
          have hpl : (jp_O P (60 + 80 * c + j)).1 = 1 → ((jq_rm (va_up (jp_O P) 356 (jq_iv (jp_O P) (60 + 80 * c + j) c)) (60 + 80 * c + j + 1) (jp_lg P c - (j + 1))) 356).2.1 < (jt_tx (jq_at (jp_O P) (60 + 80 * c)) (jp_lg P c)).2 := by
            intro z
            rw [hbo, htx]
            have z2 : (jc_lo (js_cl S c) j).1 = 1 := by rw [← (c7 j j1).2.1.1]; exact z
            have z3 : (jt_iv (js_cl S c) j).1 = 2 := by unfold jt_iv; rw [if_pos z2]
            have z4 : (jt_bo (js_cl S c) j).1 = 2 := (jL_msk (l := jc_lo (js_cl S c)) (r := j + 1) (o := jt_iv (js_cl S c) j) (jc_ln (js_cl S c) - (j + 1))).elim (fun q => q.trans z3) (fun q => absurd q hz)
            exact o1.2.2.1 z4
          exact Or.inr ⟨_, _, jL_ws_undo (xL_undo_y hI hc j hla hpn (by omega) hz hin), jL_ofM (fun sz => m_M_undo_y l D sz xm g cI cZ (jp_O P) (jp_num P) (jp_au P) (jp_rv P) (jp_of P) (jp_pn P) (jp_bk P) (jp_lg P) (jp_wh P) (jp_ms P) (jp_wr P) (jp_dn P) (jp_tr P) (jp_wa P) tx si cd c hc hlg (fun i h => by rw [jr_wh (hj.2.1 c hc) i h]; exact hI.1.2 c hc i) hok j (by omega) (by rw [jr_wh (hj.2.1 c hc) j (by omega)]; exact j2) (fun i h h2 => by rw [jr_wh (hj.2.1 c hc) i h2]; exact j3 i h (by omega)) (by omega) (by rw [htx]; omega) ((jr_ups (hj.2.1 c hc) (hi.2.1 c hc) b2 j (by omega)).2) (jr_usm (hj.2.1 c hc) (hi.2.1 c hc) hi.1.1 hc b2 j1 j2) (jr_ups (hj.2.1 c hc) (hi.2.1 c hc) b2) (by rw [hbo]; exact hz) (by omega) (by omega) hw0 hpl) rfl rfl (Nat.le_of_ble_eq_true rfl) (Nat.le_of_ble_eq_true rfl) (fun r u hp => ⟨(jq_mkP (jp_O P, jp_num P, jp_au P, jp_rv P, jp_of P, jp_pn P, jp_bk P, jp_lg P, va_up (jp_wh P) (80 * c + j) 3, jp_ms P, jp_wr P, jp_dn P, jp_tr P, jp_wa P) (jq_rm (va_up (jp_O P) 356 (jq_iv (jp_O P) (60 + 80 * c + j) c)) (60 + 80 * c + j + 1) (jp_lg P c - (j + 1))) c 2 (if (jp_O P (60 + 80 * c + j)).1 = 1 then (jt_tx (jq_at (jp_O P) (60 + 80 * c)) (jp_lg P c)).1 ((jq_rm (va_up (jp_O P) 356 (jq_iv (jp_O P) (60 + 80 * c + j) c)) (60 + 80 * c + j + 1) (jp_lg P c - (j + 1))) 356).2.1 else 0), u, nI ((jt_tx (jq_at (jp_O P) (60 + 80 * c)) ((jp_lg P) c)).2), nI 0), ⟨hp, hjm, rfl⟩, rfl⟩)⟩

set_option maxHeartbeats 4000000 in
set_option maxRecDepth 100000 in
theorem pL_character (hlf : l.flags = pinnedFlags ++ [noTraceFlag]) (hI : jL_I (S, X, Y, M)) (hj : jr P S) (v w : Int32) : jL_B l D x f ad cI cZ cG cC xm g oo cJ y_W_character ww_character [.ref x, .int v, .int w, .ref oo] y_M_character w_M_character [.int v, .int w] (S, X, Y, M) (P, tx, si, cd) := by
  have hi : jt_inv S := hI.1.1
  have hx : ∀ c, c < 3 → jt_rc (X c) (js_cl S c) := hI.2.1
  have hy : jt_rv Y S := hI.2.2.1
  have hm : jt_rm M (js_L S) := hI.2.2.2
  have hwr9 : jp_wr P = js_N S := hj.1.1
  have hwr : jp_wr P ≤ 60 := by have := hi.1.1; omega
  have hwa : jp_wa P = (js_L S).2 := hj.2.2.1
  have hw0 : jp_wa P ≤ 30 := by have := hi.2.2.1; omega
  have hdn : jp_dn P = 1 - js_up S := hj.1.2.2.2.1
  have htr : jp_tr P = js_tr S := hj.1.2.2.2.2
  have hup : js_up S ≤ 1 := hi.1.2.2.2.1
  rcases jL_sd v with h | ⟨c, hc, rfl⟩ | rfl
  · exact Or.inl ⟨1, by decide, by decide, jL_wt_character_1 (tL_character_a hlf hI v w h.1), jL_ofM (fun sz => m_M_character_a l D sz xm g cI cZ (jp_O P) (jp_num P) (jp_au P) (jp_rv P) (jp_of P) (jp_pn P) (jp_bk P) (jp_lg P) (jp_wh P) (jp_ms P) (jp_wr P) (jp_dn P) (jp_tr P) (jp_wa P) tx si cd v w h.2.2.2.2) rfl rfl (Nat.le_of_ble_eq_true rfl) (Nat.le_of_ble_eq_true rfl) (fun r u hp => ⟨(P, tx, si, nI 1), ⟨hj, rfl⟩, rfl⟩)⟩
  · skip
    obtain ⟨⟨c1, c2, c3, c4, c5⟩, c6, c7⟩ := hj.2.1 c hc
    obtain ⟨b1, b2, b3, b4, b5⟩ := jr_ln hi hc
    have hlg : jp_lg P c ≤ 80 := by omega
    have hok := jr_cOK (hj.2.1 c hc) (hi.2.1 c hc)
    have htx := jr_ctx (hj.2.1 c hc)
    rcases jL_ixd w (jc_tx (js_cl S c)).2 (by have := jL_t68 hi hc; omega) with hw | ⟨p, hp9, rfl⟩
    · exact Or.inl ⟨3, by decide, by decide, jL_wt_character_3 (tL_character_ic hlf hI hc w hw.1), jL_ofM (fun sz => m_M_character_ic l D sz xm g cI cZ (jp_O P) (jp_num P) (jp_au P) (jp_rv P) (jp_of P) (jp_pn P) (jp_bk P) (jp_lg P) (jp_wh P) (jp_ms P) (jp_wr P) (jp_dn P) (jp_tr P) (jp_wa P) tx si cd c hc hlg hok w (by rw [htx]; exact hw.2.2)) rfl rfl (Nat.le_of_ble_eq_true rfl) (Nat.le_of_ble_eq_true rfl) (fun r u hp => ⟨(P, u, nI ((jt_tx (jq_at (jp_O P) (60 + 80 * c)) ((jp_lg P) c)).2), nI 3), ⟨hj, rfl⟩, rfl⟩)⟩
    · exact Or.inr ⟨_, S, jL_ws_character hI (xL_character_yc hI hc p hp9), jL_ofM (fun sz => m_M_character_yc l D sz xm g cI cZ (jp_O P) (jp_num P) (jp_au P) (jp_rv P) (jp_of P) (jp_pn P) (jp_bk P) (jp_lg P) (jp_wh P) (jp_ms P) (jp_wr P) (jp_dn P) (jp_tr P) (jp_wa P) tx si cd c hc hlg hok p (by rw [htx]; exact hp9)) rfl rfl (Nat.le_of_ble_eq_true rfl) (Nat.le_of_ble_eq_true rfl) (fun r u hp => ⟨(P, u, nI ((jt_tx (jq_at (jp_O P) (60 + 80 * c)) ((jp_lg P) c)).2), nI 0), ⟨hp.trans (by rw [htx]), hj, rfl⟩, rfl⟩)⟩
  · by_cases e : js_up S = 0
    · exact Or.inl ⟨2, by decide, by decide, jL_wt_character_2 (tL_character_s hlf hI w e), jL_ofM (fun sz => m_M_character_d l D sz xm g cI cZ (jp_O P) (jp_num P) (jp_au P) (jp_rv P) (jp_of P) (jp_pn P) (jp_bk P) (jp_lg P) (jp_wh P) (jp_ms P) (jp_wr P) (jp_dn P) (jp_tr P) (jp_wa P) tx si cd w (by omega)) rfl rfl (Nat.le_of_ble_eq_true rfl) (Nat.le_of_ble_eq_true rfl) (fun r u hp => ⟨(P, tx, si, nI 2), ⟨hj, rfl⟩, rfl⟩)⟩
    · have hty : Y.2.2.2 = jt_tx (js_H S) (js_N S) := hy.2.2.2 (by omega)
      have h9 : jt_tx (jq_at (jp_O P) 0) (jp_wr P) = jt_tx (js_H S) (js_N S) := by rw [hwr9]; exact jr_htx hj _ (Nat.le_refl _)
      have h68 : Y.2.2.2.2 ≤ 68 := hy.2.2.1
      rcases jL_ixd w Y.2.2.2.2 (by omega) with hw | ⟨p, hp9, rfl⟩
      · exact Or.inl ⟨3, by decide, by decide, jL_wt_character_3 (tL_character_is hlf hI w e hw.1), jL_ofM (fun sz => m_M_character_is l D sz xm g cI cZ (jp_O P) (jp_num P) (jp_au P) (jp_rv P) (jp_of P) (jp_pn P) (jp_bk P) (jp_lg P) (jp_wh P) (jp_ms P) (jp_wr P) (jp_dn P) (jp_tr P) (jp_wa P) tx si cd (by omega) hwr (jr_hok hj hi) w (by rw [h9, ← hty]; exact hw.2.2)) rfl rfl (Nat.le_of_ble_eq_true rfl) (Nat.le_of_ble_eq_true rfl) (fun r u hp => ⟨(P, u, nI ((jt_tx (jq_at (jp_O P) 0) (jp_wr P)).2), nI 3), ⟨hj, rfl⟩, rfl⟩)⟩
      · exact Or.inr ⟨_, S, jL_ws_character hI (xL_character_ys hI e p hp9), jL_ofM (fun sz => m_M_character_ys l D sz xm g cI cZ (jp_O P) (jp_num P) (jp_au P) (jp_rv P) (jp_of P) (jp_pn P) (jp_bk P) (jp_lg P) (jp_wh P) (jp_ms P) (jp_wr P) (jp_dn P) (jp_tr P) (jp_wa P) tx si cd (by omega) hwr (jr_hok hj hi) p (by rw [h9, ← hty]; exact hp9)) rfl rfl (Nat.le_of_ble_eq_true rfl) (Nat.le_of_ble_eq_true rfl) (fun r u hp => ⟨(P, u, nI ((jt_tx (jq_at (jp_O P) 0) (jp_wr P)).2), nI 0), ⟨hp.trans (by rw [h9, hty]), hj, rfl⟩, rfl⟩)⟩

end JLQ
