theorem jL_li_hm {H : Nat → jt_O} {N : Nat} {num : Nat → Nat} {cl : Nat → jt_C} {L : jt_L} {k y : Nat} (h : jt_li H N num cl L) (hk : k < L.2) (hy : y < 2 ^ 8) : jt_li H N num cl (jt_hm L k y) := ⟨h.1, fun i hi => by
  have hi : i < L.2 := hi
  show jt_mi H N num cl (va_up L.1 k _ i)
  by_cases e : i = k
  · rw [e, va_up_self]
    obtain ⟨⟨a1, a2, a3, a4⟩, a5, a6⟩ := h.2 k hk
    exact ⟨⟨a1, a2, Nat.xor_lt_two_pow (n := 8) a3 hy, a4⟩, a5, a6⟩
  · rw [va_up_ne _ _ e]; exact h.2 i hi⟩
section JLP
variable {l : Launch} {D : va_G} {x xm : Nat} {f ad g : Nat → Nat} {cI cZ cG cC : ClassId} {S : jt_S} {X : Nat → jt_X} {Y : jt_Y} {M : Nat → Nat → Int32} {P : jq_P} {tx : Nat → Int32} {si cd : Int32}
set_option maxHeartbeats 4000000 in
set_option maxRecDepth 100000 in
theorem pL_length (hI : jL_I (S, X, Y, M)) (hj : jr P S) (v : Int32) : jL_A l D x f ad cI cZ cG cC xm g y_J_length w_J_length y_M_length w_M_length [.int v] (S, X, Y, M) (P, tx, si, cd) := by
  have hi : jt_inv S := hI.1.1
  have hx : ∀ c, c < 3 → jt_rc (X c) (js_cl S c) := hI.2.1
  have hy : jt_rv Y S := hI.2.2.1
  have hm : jt_rm M (js_L S) := hI.2.2.2
  have hwr9 : jp_wr P = js_N S := hj.1.1
  have hwr : jp_wr P ≤ 60 := by have := hi.1.1; omega
  have hwa : jp_wa P = (js_L S).2 := hj.2.2.1
  have hw0 : jp_wa P ≤ 30 := by have := hi.2.2.1; omega
  have hdn : jp_dn P = 1 - js_up S := hj.1.2.2.2.1
  have htr : jp_tr P = js_tr S := hj.1.2.2.2.2
  have hup : js_up S ≤ 1 := hi.1.2.2.2.1
  rcases jL_sd v with h | ⟨c, hc, rfl⟩ | rfl
  · exact ⟨_, S, xL_length_n hI v h.1, jL_ofM (fun sz => m_M_length_n l D sz xm g cI cZ (jp_O P) (jp_num P) (jp_au P) (jp_rv P) (jp_of P) (jp_pn P) (jp_bk P) (jp_lg P) (jp_wh P) (jp_ms P) (jp_wr P) (jp_dn P) (jp_tr P) (jp_wa P) tx si cd v h.2.1) rfl rfl (Nat.le_of_ble_eq_true rfl) (Nat.le_of_ble_eq_true rfl) (fun r u hp => ⟨(P, tx, si, nI 0), ⟨hp, hj⟩, rfl⟩)⟩
  · skip
    obtain ⟨⟨c1, c2, c3, c4, c5⟩, c6, c7⟩ := hj.2.1 c hc
    obtain ⟨b1, b2, b3, b4, b5⟩ := jr_ln hi hc
    have hlg : jp_lg P c ≤ 80 := by omega
    have hok := jr_cOK (hj.2.1 c hc) (hi.2.1 c hc)
    have htx := jr_ctx (hj.2.1 c hc)
    exact ⟨_, S, xL_length_c hI hc, jL_ofM (fun sz => m_M_length_c l D sz xm g cI cZ (jp_O P) (jp_num P) (jp_au P) (jp_rv P) (jp_of P) (jp_pn P) (jp_bk P) (jp_lg P) (jp_wh P) (jp_ms P) (jp_wr P) (jp_dn P) (jp_tr P) (jp_wa P) tx si cd c hc hlg hok) rfl rfl (Nat.le_of_ble_eq_true rfl) (Nat.le_of_ble_eq_true rfl) (fun r u hp => ⟨(P, u, nI ((jt_tx (jq_at (jp_O P) (60 + 80 * c)) ((jp_lg P) c)).2), nI 0), ⟨hp.trans (by rw [htx]), hj⟩, rfl⟩)⟩
  · by_cases e : js_up S = 0
    · refine ⟨_, S, xL_length_s hI, ?_⟩
      rw [if_pos e]
      exact jL_ofM (fun sz => m_M_length_d l D sz xm g cI cZ (jp_O P) (jp_num P) (jp_au P) (jp_rv P) (jp_of P) (jp_pn P) (jp_bk P) (jp_lg P) (jp_wh P) (jp_ms P) (jp_wr P) (jp_dn P) (jp_tr P) (jp_wa P) tx si cd (by omega)) rfl rfl (Nat.le_of_ble_eq_true rfl) (Nat.le_of_ble_eq_true rfl) (fun r u hp => ⟨(P, tx, si, nI 0), ⟨hp, hj⟩, rfl⟩)
    · have hty : Y.2.2.2 = jt_tx (js_H S) (js_N S) := hy.2.2.2 (by omega)
      have h9 : jt_tx (jq_at (jp_O P) 0) (jp_wr P) = jt_tx (js_H S) (js_N S) := by rw [hwr9]; exact jr_htx hj _ (Nat.le_refl _)
      refine ⟨_, S, xL_length_s hI, ?_⟩
      rw [if_neg e]
      exact jL_ofM (fun sz => m_M_length_s l D sz xm g cI cZ (jp_O P) (jp_num P) (jp_au P) (jp_rv P) (jp_of P) (jp_pn P) (jp_bk P) (jp_lg P) (jp_wh P) (jp_ms P) (jp_wr P) (jp_dn P) (jp_tr P) (jp_wa P) tx si cd (by omega) hwr (jr_hok hj hi)) rfl rfl (Nat.le_of_ble_eq_true rfl) (Nat.le_of_ble_eq_true rfl) (fun r u hp => ⟨(P, u, nI ((jt_tx (jq_at (jp_O P) 0) (jp_wr P)).2), nI 0), ⟨hp.trans (by rw [h9, hty]), hj⟩, rfl⟩)

set_option maxHeartbeats 4000000 in
set_option maxRecDepth 100000 in
theorem pL_revision (hI : jL_I (S, X, Y, M)) (hj : jr P S) (v : Int32) : jL_A l D x f ad cI cZ cG cC xm g y_J_revision w_J_revision y_M_revision w_M_revision [.int v] (S, X, Y, M) (P, tx, si, cd) := by
  have hi : jt_inv S := hI.1.1
  have hx : ∀ c, c < 3 → jt_rc (X c) (js_cl S c) := hI.2.1
  have hy : jt_rv Y S := hI.2.2.1
  have hm : jt_rm M (js_L S) := hI.2.2.2
  have hwr9 : jp_wr P = js_N S := hj.1.1
  have hwr : jp_wr P ≤ 60 := by have := hi.1.1; omega
  have hwa : jp_wa P = (js_L S).2 := hj.2.2.1
  have hw0 : jp_wa P ≤ 30 := by have := hi.2.2.1; omega
  have hdn : jp_dn P = 1 - js_up S := hj.1.2.2.2.1
  have htr : jp_tr P = js_tr S := hj.1.2.2.2.2
  have hup : js_up S ≤ 1 := hi.1.2.2.2.1
  rcases jL_sd v with h | ⟨c, hc, rfl⟩ | rfl
  · exact ⟨_, S, xL_revision_n hI v h.1, jL_ofM (fun sz => m_M_revision_n l D sz xm g cI cZ (jp_O P) (jp_num P) (jp_au P) (jp_rv P) (jp_of P) (jp_pn P) (jp_bk P) (jp_lg P) (jp_wh P) (jp_ms P) (jp_wr P) (jp_dn P) (jp_tr P) (jp_wa P) tx si cd v h.2.2.1 h.2.2.2.1) rfl rfl (Nat.le_of_ble_eq_true rfl) (Nat.le_of_ble_eq_true rfl) (fun r u hp => ⟨(P, tx, si, nI 0), ⟨hp, hj⟩, rfl⟩)⟩
  · skip
    obtain ⟨⟨c1, c2, c3, c4, c5⟩, c6, c7⟩ := hj.2.1 c hc
    obtain ⟨b1, b2, b3, b4, b5⟩ := jr_ln hi hc
    have hlg : jp_lg P c ≤ 80 := by omega
    have hok := jr_cOK (hj.2.1 c hc) (hi.2.1 c hc)
    have htx := jr_ctx (hj.2.1 c hc)
    exact ⟨_, S, xL_revision_c hI hc, jL_ofM (fun sz => m_M_revision_c l D sz xm g cI cZ (jp_O P) (jp_num P) (jp_au P) (jp_rv P) (jp_of P) (jp_pn P) (jp_bk P) (jp_lg P) (jp_wh P) (jp_ms P) (jp_wr P) (jp_dn P) (jp_tr P) (jp_wa P) tx si cd c hc) rfl rfl (Nat.le_of_ble_eq_true rfl) (Nat.le_of_ble_eq_true rfl) (fun r u hp => ⟨(P, tx, si, nI 0), ⟨hp.trans (by rw [c1]), hj⟩, rfl⟩)⟩
  · exact ⟨_, S, xL_revision_s hI, jL_ofM (fun sz => m_M_revision_s l D sz xm g cI cZ (jp_O P) (jp_num P) (jp_au P) (jp_rv P) (jp_of P) (jp_pn P) (jp_bk P) (jp_lg P) (jp_wh P) (jp_ms P) (jp_wr P) (jp_dn P) (jp_tr P) (jp_wa P) tx si cd) rfl rfl (Nat.le_of_ble_eq_true rfl) (Nat.le_of_ble_eq_true rfl) (fun r u hp => ⟨(P, tx, si, nI 0), ⟨hp.trans (by rw [hwr9]), hj⟩, rfl⟩)⟩

set_option maxHeartbeats 4000000 in
set_option maxRecDepth 100000 in
theorem pL_pending (hI : jL_I (S, X, Y, M)) (hj : jr P S) (v : Int32) : jL_A l D x f ad cI cZ cG cC xm g y_J_pending w_J_pending y_M_pending w_M_pending [.int v] (S, X, Y, M) (P, tx, si, cd) := by
  have hi : jt_inv S := hI.1.1
  have hx : ∀ c, c < 3 → jt_rc (X c) (js_cl S c) := hI.2.1
  have hy : jt_rv Y S := hI.2.2.1
  have hm : jt_rm M (js_L S) := hI.2.2.2
  have hwr9 : jp_wr P = js_N S := hj.1.1
  have hwr : jp_wr P ≤ 60 := by have := hi.1.1; omega
  have hwa : jp_wa P = (js_L S).2 := hj.2.2.1
  have hw0 : jp_wa P ≤ 30 := by have := hi.2.2.1; omega
  have hdn : jp_dn P = 1 - js_up S := hj.1.2.2.2.1
  have htr : jp_tr P = js_tr S := hj.1.2.2.2.2
  have hup : js_up S ≤ 1 := hi.1.2.2.2.1
  rcases jL_cd v with h | ⟨c, hc, rfl⟩
  · exact ⟨_, S, xL_pending_n hI v h.1, jL_ofM (fun sz => m_M_pending_n l D sz xm g cI cZ (jp_O P) (jp_num P) (jp_au P) (jp_rv P) (jp_of P) (jp_pn P) (jp_bk P) (jp_lg P) (jp_wh P) (jp_ms P) (jp_wr P) (jp_dn P) (jp_tr P) (jp_wa P) tx si cd v h.2) rfl rfl (Nat.le_of_ble_eq_true rfl) (Nat.le_of_ble_eq_true rfl) (fun r u hp => ⟨(P, tx, si, nI 0), ⟨hp, hj⟩, rfl⟩)⟩
  · skip
    obtain ⟨⟨c1, c2, c3, c4, c5⟩, c6, c7⟩ := hj.2.1 c hc
    obtain ⟨b1, b2, b3, b4, b5⟩ := jr_ln hi hc
    have hlg : jp_lg P c ≤ 80 := by omega
    have hok := jr_cOK (hj.2.1 c hc) (hi.2.1 c hc)
    have htx := jr_ctx (hj.2.1 c hc)
    exact ⟨_, S, xL_pending_c hI hc, jL_ofM (fun sz => m_M_pending_y l D sz xm g cI cZ (jp_O P) (jp_num P) (jp_au P) (jp_rv P) (jp_of P) (jp_pn P) (jp_bk P) (jp_lg P) (jp_wh P) (jp_ms P) (jp_wr P) (jp_dn P) (jp_tr P) (jp_wa P) tx si cd c hc) rfl rfl (Nat.le_of_ble_eq_true rfl) (Nat.le_of_ble_eq_true rfl) (fun r u hp => ⟨(P, tx, si, nI 0), ⟨hp.trans (by rw [c3]), hj⟩, rfl⟩)⟩

set_option maxHeartbeats 4000000 in
set_option maxRecDepth 100000 in
theorem pL_op (hI : jL_I (S, X, Y, M)) (hj : jr P S) (v w : Int32) : jL_A l D x f ad cI cZ cG cC xm g y_J_op w_J_op y_M_op w_M_op [.int v, .int w] (S, X, Y, M) (P, tx, si, cd) := by
  have hi : jt_inv S := hI.1.1
  have hx : ∀ c, c < 3 → jt_rc (X c) (js_cl S c) := hI.2.1
  have hy : jt_rv Y S := hI.2.2.1
  have hm : jt_rm M (js_L S) := hI.2.2.2
  have hwr9 : jp_wr P = js_N S := hj.1.1
  have hwr : jp_wr P ≤ 60 := by have := hi.1.1; omega
  have hwa : jp_wa P = (js_L S).2 := hj.2.2.1
  have hw0 : jp_wa P ≤ 30 := by have := hi.2.2.1; omega
  have hdn : jp_dn P = 1 - js_up S := hj.1.2.2.2.1
  have htr : jp_tr P = js_tr S := hj.1.2.2.2.2
  have hup : js_up S ≤ 1 := hi.1.2.2.2.1
  rcases jL_ixd v (js_N S) (by have := hi.1.1; omega) with h | ⟨i, hi9, rfl⟩
  · exact ⟨_, S, xL_op_n hI v w h.1, jL_ofM (fun sz => m_M_op_n l D sz xm g cI cZ (jp_O P) (jp_num P) (jp_au P) (jp_rv P) (jp_of P) (jp_pn P) (jp_bk P) (jp_lg P) (jp_wh P) (jp_ms P) (jp_wr P) (jp_dn P) (jp_tr P) (jp_wa P) tx si cd v w (by rw [hwr9]; exact h.2.1)) rfl rfl (Nat.le_of_ble_eq_true rfl) (Nat.le_of_ble_eq_true rfl) (fun r u hp => ⟨(P, tx, si, nI 0), ⟨hp, hj⟩, rfl⟩)⟩
  · exact ⟨_, S, xL_op_y hI i hi9 w, jL_ofM (fun sz => m_M_op_y l D sz xm g cI cZ (jp_O P) (jp_num P) (jp_au P) (jp_rv P) (jp_of P) (jp_pn P) (jp_bk P) (jp_lg P) (jp_wh P) (jp_ms P) (jp_wr P) (jp_dn P) (jp_tr P) (jp_wa P) tx si cd i (by rw [hwr9]; exact hi9) hwr w) rfl rfl (Nat.le_of_ble_eq_true rfl) (Nat.le_of_ble_eq_true rfl) (fun r u hp => ⟨(P, tx, si, nI 0), ⟨hp.trans (jr_qo hj hi9 w), hj⟩, rfl⟩)⟩

set_option maxHeartbeats 4000000 in
set_option maxRecDepth 100000 in
theorem pL_waiting (hI : jL_I (S, X, Y, M)) (hj : jr P S)  : jL_A l D x f ad cI cZ cG cC xm g y_J_waiting w_J_waiting y_M_waiting w_M_waiting [] (S, X, Y, M) (P, tx, si, cd) := by
  have hi : jt_inv S := hI.1.1
  have hx : ∀ c, c < 3 → jt_rc (X c) (js_cl S c) := hI.2.1
  have hy : jt_rv Y S := hI.2.2.1
  have hm : jt_rm M (js_L S) := hI.2.2.2
  have hwr9 : jp_wr P = js_N S := hj.1.1
  have hwr : jp_wr P ≤ 60 := by have := hi.1.1; omega
  have hwa : jp_wa P = (js_L S).2 := hj.2.2.1
  have hw0 : jp_wa P ≤ 30 := by have := hi.2.2.1; omega
  have hdn : jp_dn P = 1 - js_up S := hj.1.2.2.2.1
  have htr : jp_tr P = js_tr S := hj.1.2.2.2.2
  have hup : js_up S ≤ 1 := hi.1.2.2.2.1
  exact ⟨_, S, xL_waiting hI, jL_ofM (fun sz => m_M_waiting l D sz xm g cI cZ (jp_O P) (jp_num P) (jp_au P) (jp_rv P) (jp_of P) (jp_pn P) (jp_bk P) (jp_lg P) (jp_wh P) (jp_ms P) (jp_wr P) (jp_dn P) (jp_tr P) (jp_wa P) tx si cd) rfl rfl (Nat.le_of_ble_eq_true rfl) (Nat.le_of_ble_eq_true rfl) (fun r u hp => ⟨(P, tx, si, nI 0), ⟨hp.trans (by rw [hwa]), hj⟩, rfl⟩)⟩

set_option maxHeartbeats 4000000 in
set_option maxRecDepth 100000 in
theorem pL_message (hI : jL_I (S, X, Y, M)) (hj : jr P S) (v w : Int32) : jL_A l D x f ad cI cZ cG cC xm g y_J_message w_J_message y_M_message w_M_message [.int v, .int w] (S, X, Y, M) (P, tx, si, cd) := by
  have hi : jt_inv S := hI.1.1
  have hx : ∀ c, c < 3 → jt_rc (X c) (js_cl S c) := hI.2.1
  have hy : jt_rv Y S := hI.2.2.1
  have hm : jt_rm M (js_L S) := hI.2.2.2
  have hwr9 : jp_wr P = js_N S := hj.1.1
  have hwr : jp_wr P ≤ 60 := by have := hi.1.1; omega
  have hwa : jp_wa P = (js_L S).2 := hj.2.2.1
  have hw0 : jp_wa P ≤ 30 := by have := hi.2.2.1; omega
  have hdn : jp_dn P = 1 - js_up S := hj.1.2.2.2.1
  have htr : jp_tr P = js_tr S := hj.1.2.2.2.2
  have hup : js_up S ≤ 1 := hi.1.2.2.2.1
  rcases jL_ixd v (js_L S).2 (by have := hi.2.2.1; omega) with h | ⟨k, hk, rfl⟩
  · exact ⟨_, S, xL_message_n hI v w h.1, jL_ofM (fun sz => m_M_message_n l D sz xm g cI cZ (jp_O P) (jp_num P) (jp_au P) (jp_rv P) (jp_of P) (jp_pn P) (jp_bk P) (jp_lg P) (jp_wh P) (jp_ms P) (jp_wr P) (jp_dn P) (jp_tr P) (jp_wa P) tx si cd v (by rw [hwa]; exact h.1) w) rfl rfl (Nat.le_of_ble_eq_true rfl) (Nat.le_of_ble_eq_true rfl) (fun r u hp => ⟨(P, tx, si, nI 0), ⟨hp, hj⟩, rfl⟩)⟩
  · exact ⟨_, S, xL_message_y hI k hk w, jL_ofM (fun sz => m_M_message_y l D sz xm g cI cZ (jp_O P) (jp_num P) (jp_au P) (jp_rv P) (jp_of P) (jp_pn P) (jp_bk P) (jp_lg P) (jp_wh P) (jp_ms P) (jp_wr P) (jp_dn P) (jp_tr P) (jp_wa P) tx si cd k (by rw [hwa]; exact hk) hw0 w (by rw [show jp_ms P k = _ from (hj.2.2.2 k hk).1]; exact (hi.2.2.2 k hk).1.2.2.1)) rfl rfl (Nat.le_of_ble_eq_true rfl) (Nat.le_of_ble_eq_true rfl) (fun r u hp => ⟨(P, tx, si, nI 0), ⟨hp.trans (jr_qm hj hk w), hj⟩, rfl⟩)⟩

set_option maxHeartbeats 4000000 in
set_option maxRecDepth 100000 in
theorem pL_lose (hI : jL_I (S, X, Y, M)) (hj : jr P S) (v : Int32) : jL_A l D x f ad cI cZ cG cC xm g y_J_lose w_J_lose y_M_lose w_M_lose [.int v] (S, X, Y, M) (P, tx, si, cd) := by
  have hi : jt_inv S := hI.1.1
  have hx : ∀ c, c < 3 → jt_rc (X c) (js_cl S c) := hI.2.1
  have hy : jt_rv Y S := hI.2.2.1
  have hm : jt_rm M (js_L S) := hI.2.2.2
  have hwr9 : jp_wr P = js_N S := hj.1.1
  have hwr : jp_wr P ≤ 60 := by have := hi.1.1; omega
  have hwa : jp_wa P = (js_L S).2 := hj.2.2.1
  have hw0 : jp_wa P ≤ 30 := by have := hi.2.2.1; omega
  have hdn : jp_dn P = 1 - js_up S := hj.1.2.2.2.1
  have htr : jp_tr P = js_tr S := hj.1.2.2.2.2
  have hup : js_up S ≤ 1 := hi.1.2.2.2.1
  rcases jL_ixd v (js_L S).2 (by have := hi.2.2.1; omega) with h | ⟨k, hk, rfl⟩
  · exact ⟨_, S, xL_lose_n hI v h.1, jL_ofM (fun sz => m_M_lose_n l D sz xm g cI cZ (jp_O P) (jp_num P) (jp_au P) (jp_rv P) (jp_of P) (jp_pn P) (jp_bk P) (jp_lg P) (jp_wh P) (jp_ms P) (jp_wr P) (jp_dn P) (jp_tr P) (jp_wa P) tx si cd v (by rw [hwa]; exact h.1)) rfl rfl (Nat.le_of_ble_eq_true rfl) (Nat.le_of_ble_eq_true rfl) (fun r u hp => ⟨(P, tx, si, nI 0), ⟨hp, hj⟩, rfl⟩)⟩
  · exact ⟨_, _, xL_lose_y hI k hk ⟨jt_inv_L hi (jt_li_tk (jt_inv_li hi) hk), hI.1.2⟩, jL_ofM (fun sz => m_M_lose_y l D sz xm g cI cZ (jp_O P) (jp_num P) (jp_au P) (jp_rv P) (jp_of P) (jp_pn P) (jp_bk P) (jp_lg P) (jp_wh P) (jp_ms P) (jp_wr P) (jp_dn P) (jp_tr P) (jp_wa P) tx si cd k (by rw [hwa]; exact hk) hw0) rfl rfl (Nat.le_of_ble_eq_true rfl) (Nat.le_of_ble_eq_true rfl) (fun r u hp => ⟨(jq_wL P (jq_take (jp_O P, jp_ms P, jp_wa P) k), tx, si, nI 0), ⟨hp, jr_wL (Q := jq_take (jp_O P, jp_ms P, jp_wa P) k) hj hi (jr_l_take hj.2.2 hk) (fun i hi9 => jq_take_out (Or.inl hi9) hw0)⟩, rfl⟩)⟩

set_option maxHeartbeats 4000000 in
set_option maxRecDepth 100000 in
theorem pL_repeat (hI : jL_I (S, X, Y, M)) (hj : jr P S) (v : Int32) : jL_A l D x f ad cI cZ cG cC xm g y_J_repeat w_J_repeat y_M_repeat w_M_repeat [.int v] (S, X, Y, M) (P, tx, si, cd) := by
  have hi : jt_inv S := hI.1.1
  have hx : ∀ c, c < 3 → jt_rc (X c) (js_cl S c) := hI.2.1
  have hy : jt_rv Y S := hI.2.2.1
  have hm : jt_rm M (js_L S) := hI.2.2.2
  have hwr9 : jp_wr P = js_N S := hj.1.1
  have hwr : jp_wr P ≤ 60 := by have := hi.1.1; omega
  have hwa : jp_wa P = (js_L S).2 := hj.2.2.1
  have hw0 : jp_wa P ≤ 30 := by have := hi.2.2.1; omega
  have hdn : jp_dn P = 1 - js_up S := hj.1.2.2.2.1
  have htr : jp_tr P = js_tr S := hj.1.2.2.2.2
  have hup : js_up S ≤ 1 := hi.1.2.2.2.1
  rcases jL_ixd v (js_L S).2 (by have := hi.2.2.1; omega) with h | ⟨k, hk, rfl⟩
  · exact ⟨_, S, xL_repeat_n hI v h.1, jL_ofM (fun sz => m_M_repeat_n l D sz xm g cI cZ (jp_O P) (jp_num P) (jp_au P) (jp_rv P) (jp_of P) (jp_pn P) (jp_bk P) (jp_lg P) (jp_wh P) (jp_ms P) (jp_wr P) (jp_dn P) (jp_tr P) (jp_wa P) tx si cd v (by rw [hwa]; exact h.1)) rfl rfl (Nat.le_of_ble_eq_true rfl) (Nat.le_of_ble_eq_true rfl) (fun r u hp => ⟨(P, tx, si, nI 0), ⟨hp, hj⟩, rfl⟩)⟩
  · by_cases h30 : (js_L S).2 = 30
    · exact ⟨_, S, xL_repeat_f hI k hk h30, jL_ofM (fun sz => m_M_repeat_f l D sz xm g cI cZ (jp_O P) (jp_num P) (jp_au P) (jp_rv P) (jp_of P) (jp_pn P) (jp_bk P) (jp_lg P) (jp_wh P) (jp_ms P) (jp_wr P) (jp_dn P) (jp_tr P) (jp_wa P) tx si cd k (by rw [hwa]; exact hk) hw0 (by omega)) rfl rfl (Nat.le_of_ble_eq_true rfl) (Nat.le_of_ble_eq_true rfl) (fun r u hp => ⟨(P, tx, si, nI 0), ⟨hp, hj⟩, rfl⟩)⟩
    · have hL : (js_L S).2 < 30 := by have := hi.2.2.1; omega
      have hli : jt_li (js_H S) (js_N S) (js_num S) (js_cl S) (jt_sd (js_L S) ((js_L S).1 k)) := jt_li_sd (jt_inv_li hi) (hi.2.2.2 k hk)
      exact ⟨_, _, xL_repeat_y hI k hk hL ⟨jt_inv_L hi hli, hI.1.2⟩, jL_ofM (fun sz => m_M_repeat_y l D sz xm g cI cZ (jp_O P) (jp_num P) (jp_au P) (jp_rv P) (jp_of P) (jp_pn P) (jp_bk P) (jp_lg P) (jp_wh P) (jp_ms P) (jp_wr P) (jp_dn P) (jp_tr P) (jp_wa P) tx si cd k (by rw [hwa]; exact hk) hw0 (by omega)) rfl rfl (Nat.le_of_ble_eq_true rfl) (Nat.le_of_ble_eq_true rfl) (fun r u hp => ⟨(jq_wL P (va_up (jp_O P) (324 + jp_wa P) (jp_O P (324 + k)), va_up (jp_ms P) (jp_wa P) (jp_ms P k), jp_wa P + 1), tx, si, nI 0), ⟨hp, jr_wL (Q := (va_up (jp_O P) (324 + jp_wa P) (jp_O P (324 + k)), va_up (jp_ms P) (jp_wa P) (jp_ms P k), jp_wa P + 1)) hj hi (jr_l_rp hj.2.2 hk hL) (fun i hi9 => va_up_ne _ _ (by omega))⟩, rfl⟩)⟩

set_option maxHeartbeats 4000000 in
set_option maxRecDepth 100000 in
theorem pL_harm (hI : jL_I (S, X, Y, M)) (hj : jr P S) (v w : Int32) : jL_A l D x f ad cI cZ cG cC xm g y_J_harm w_J_harm y_M_harm w_M_harm [.int v, .int w] (S, X, Y, M) (P, tx, si, cd) := by
  have hi : jt_inv S := hI.1.1
  have hx : ∀ c, c < 3 → jt_rc (X c) (js_cl S c) := hI.2.1
  have hy : jt_rv Y S := hI.2.2.1
  have hm : jt_rm M (js_L S) := hI.2.2.2
  have hwr9 : jp_wr P = js_N S := hj.1.1
  have hwr : jp_wr P ≤ 60 := by have := hi.1.1; omega
  have hwa : jp_wa P = (js_L S).2 := hj.2.2.1
  have hw0 : jp_wa P ≤ 30 := by have := hi.2.2.1; omega
  have hdn : jp_dn P = 1 - js_up S := hj.1.2.2.2.1
  have htr : jp_tr P = js_tr S := hj.1.2.2.2.2
  have hup : js_up S ≤ 1 := hi.1.2.2.2.1
  rcases jL_ixd v (js_L S).2 (by have := hi.2.2.1; omega) with h | ⟨k, hk, rfl⟩
  · exact ⟨_, S, xL_harm_n hI v w h.1, jL_ofM (fun sz => m_M_harm_n l D sz xm g cI cZ (jp_O P) (jp_num P) (jp_au P) (jp_rv P) (jp_of P) (jp_pn P) (jp_bk P) (jp_lg P) (jp_wh P) (jp_ms P) (jp_wr P) (jp_dn P) (jp_tr P) (jp_wa P) tx si cd v (by rw [hwa]; exact h.1) w) rfl rfl (Nat.le_of_ble_eq_true rfl) (Nat.le_of_ble_eq_true rfl) (fun r u hp => ⟨(P, tx, si, nI 0), ⟨hp, hj⟩, rfl⟩)⟩
  · exact ⟨_, _, xL_harm_y hI k hk w ⟨jt_inv_L hi (jL_li_hm (jt_inv_li hi) hk (Nat.mod_lt _ (by decide))), hI.1.2⟩, jL_ofM (fun sz => m_M_harm_y l D sz xm g cI cZ (jp_O P) (jp_num P) (jp_au P) (jp_rv P) (jp_of P) (jp_pn P) (jp_bk P) (jp_lg P) (jp_wh P) (jp_ms P) (jp_wr P) (jp_dn P) (jp_tr P) (jp_wa P) tx si cd k (by rw [hwa]; exact hk) hw0 w) rfl rfl (Nat.le_of_ble_eq_true rfl) (Nat.le_of_ble_eq_true rfl) (fun r u hp => ⟨(jq_wL P (jp_O P, va_up (jp_ms P) k ((jp_ms P k).1, (jp_ms P k).2.1, (jp_ms P k).2.2.1, (jp_ms P k).2.2.2.1, (jp_ms P k).2.2.2.2 ^^^ (w.toBitVec.toNat % 2 ^ 8)), jp_wa P), tx, si, nI 0), ⟨hp, jr_wL (Q := (jp_O P, va_up (jp_ms P) k ((jp_ms P k).1, (jp_ms P k).2.1, (jp_ms P k).2.2.1, (jp_ms P k).2.2.2.1, (jp_ms P k).2.2.2.2 ^^^ (w.toBitVec.toNat % 2 ^ 8)), jp_wa P)) hj hi (jr_l_hm hj.2.2 hk) (fun _ _ => rfl)⟩, rfl⟩)⟩

set_option maxHeartbeats 4000000 in
set_option maxRecDepth 100000 in
theorem pL_trip (hI : jL_I (S, X, Y, M)) (hj : jr P S) (v : Int32) : jL_A l D x f ad cI cZ cG cC xm g y_J_trip w_J_trip y_M_trip w_M_trip [.int v] (S, X, Y, M) (P, tx, si, cd) := by
  have hi : jt_inv S := hI.1.1
  have hx : ∀ c, c < 3 → jt_rc (X c) (js_cl S c) := hI.2.1
  have hy : jt_rv Y S := hI.2.2.1
  have hm : jt_rm M (js_L S) := hI.2.2.2
  have hwr9 : jp_wr P = js_N S := hj.1.1
  have hwr : jp_wr P ≤ 60 := by have := hi.1.1; omega
  have hwa : jp_wa P = (js_L S).2 := hj.2.2.1
  have hw0 : jp_wa P ≤ 30 := by have := hi.2.2.1; omega
  have hdn : jp_dn P = 1 - js_up S := hj.1.2.2.2.1
  have htr : jp_tr P = js_tr S := hj.1.2.2.2.2
  have hup : js_up S ≤ 1 := hi.1.2.2.2.1
  rcases jL_trd v with h | ⟨k, hk, rfl⟩
  · exact ⟨_, S, xL_trip_n hI v h.1, jL_ofM (fun sz => m_M_trip_n l D sz xm g cI cZ (jp_O P) (jp_num P) (jp_au P) (jp_rv P) (jp_of P) (jp_pn P) (jp_bk P) (jp_lg P) (jp_wh P) (jp_ms P) (jp_wr P) (jp_dn P) (jp_tr P) (jp_wa P) tx si cd v h.2) rfl rfl (Nat.le_of_ble_eq_true rfl) (Nat.le_of_ble_eq_true rfl) (fun r u hp => ⟨(P, tx, si, nI 0), ⟨hp, hj⟩, rfl⟩)⟩
  · exact ⟨_, _, xL_trip_y hI k hk ⟨jt_inv_up hi hup (by omega), hI.1.2⟩, jL_ofM (fun sz => m_M_trip_y l D sz xm g cI cZ (jp_O P) (jp_num P) (jp_au P) (jp_rv P) (jp_of P) (jp_pn P) (jp_bk P) (jp_lg P) (jp_wh P) (jp_ms P) (jp_wr P) (jp_dn P) (jp_tr P) (jp_wa P) tx si cd k (by omega)) rfl rfl (Nat.le_of_ble_eq_true rfl) (Nat.le_of_ble_eq_true rfl) (fun r u hp => ⟨(((jp_O P), (jp_num P), (jp_au P), (jp_rv P), (jp_of P), (jp_pn P), (jp_bk P), (jp_lg P), (jp_wh P), (jp_ms P), (jp_wr P), (jp_dn P), k, (jp_wa P)), tx, si, nI 0), ⟨hp, jL_upx hj hdn rfl⟩, rfl⟩)⟩

set_option maxHeartbeats 4000000 in
set_option maxRecDepth 100000 in
theorem pL_crash (hI : jL_I (S, X, Y, M)) (hj : jr P S)  : jL_A l D x f ad cI cZ cG cC xm g y_J_crash w_J_crash y_M_crash w_M_crash [] (S, X, Y, M) (P, tx, si, cd) := by
  have hi : jt_inv S := hI.1.1
  have hx : ∀ c, c < 3 → jt_rc (X c) (js_cl S c) := hI.2.1
  have hy : jt_rv Y S := hI.2.2.1
  have hm : jt_rm M (js_L S) := hI.2.2.2
  have hwr9 : jp_wr P = js_N S := hj.1.1
  have hwr : jp_wr P ≤ 60 := by have := hi.1.1; omega
  have hwa : jp_wa P = (js_L S).2 := hj.2.2.1
  have hw0 : jp_wa P ≤ 30 := by have := hi.2.2.1; omega
  have hdn : jp_dn P = 1 - js_up S := hj.1.2.2.2.1
  have htr : jp_tr P = js_tr S := hj.1.2.2.2.2
  have hup : js_up S ≤ 1 := hi.1.2.2.2.1
  by_cases e : js_up S = 0
  · exact ⟨_, S, xL_crash_n hI e, jL_ofM (fun sz => m_M_crash l D sz xm g cI cZ (jp_O P) (jp_num P) (jp_au P) (jp_rv P) (jp_of P) (jp_pn P) (jp_bk P) (jp_lg P) (jp_wh P) (jp_ms P) (jp_wr P) (jp_dn P) (jp_tr P) (jp_wa P) tx si cd (by omega)) rfl rfl (Nat.le_of_ble_eq_true rfl) (Nat.le_of_ble_eq_true rfl) (fun r u hp => ⟨(((jp_O P), (jp_num P), (jp_au P), (jp_rv P), (jp_of P), (jp_pn P), (jp_bk P), (jp_lg P), (jp_wh P), (jp_ms P), (jp_wr P), 1, (jp_tr P), (jp_wa P)), tx, si, nI 0), ⟨hp.trans (by rw [decide_eq_false (by omega)]; rfl), jL_upx (u := js_up S) (t := js_tr S) hj (by omega) htr⟩, rfl⟩)⟩
  · exact ⟨_, _, xL_crash_y hI (by omega) ⟨jt_inv_up hi (by decide) hi.1.2.2.2.2, hI.1.2⟩, jL_ofM (fun sz => m_M_crash l D sz xm g cI cZ (jp_O P) (jp_num P) (jp_au P) (jp_rv P) (jp_of P) (jp_pn P) (jp_bk P) (jp_lg P) (jp_wh P) (jp_ms P) (jp_wr P) (jp_dn P) (jp_tr P) (jp_wa P) tx si cd (by omega)) rfl rfl (Nat.le_of_ble_eq_true rfl) (Nat.le_of_ble_eq_true rfl) (fun r u hp => ⟨(((jp_O P), (jp_num P), (jp_au P), (jp_rv P), (jp_of P), (jp_pn P), (jp_bk P), (jp_lg P), (jp_wh P), (jp_ms P), (jp_wr P), 1, (jp_tr P), (jp_wa P)), tx, si, nI 0), ⟨hp.trans (by rw [decide_eq_true (by omega)]; rfl), jL_upx hj rfl htr⟩, rfl⟩)⟩

set_option maxHeartbeats 4000000 in
set_option maxRecDepth 100000 in
theorem pL_restart (hI : jL_I (S, X, Y, M)) (hj : jr P S)  : jL_A l D x f ad cI cZ cG cC xm g y_J_restart w_J_restart y_M_restart w_M_restart [] (S, X, Y, M) (P, tx, si, cd) := by
  have hi : jt_inv S := hI.1.1
  have hx : ∀ c, c < 3 → jt_rc (X c) (js_cl S c) := hI.2.1
  have hy : jt_rv Y S := hI.2.2.1
  have hm : jt_rm M (js_L S) := hI.2.2.2
  have hwr9 : jp_wr P = js_N S := hj.1.1
  have hwr : jp_wr P ≤ 60 := by have := hi.1.1; omega
  have hwa : jp_wa P = (js_L S).2 := hj.2.2.1
  have hw0 : jp_wa P ≤ 30 := by have := hi.2.2.1; omega
  have hdn : jp_dn P = 1 - js_up S := hj.1.2.2.2.1
  have htr : jp_tr P = js_tr S := hj.1.2.2.2.2
  have hup : js_up S ≤ 1 := hi.1.2.2.2.1
  by_cases e : js_up S = 0
  · exact ⟨_, _, xL_restart_y hI e ⟨jt_inv_up hi (by decide) (by decide), hI.1.2⟩, jL_ofM (fun sz => m_M_restart_y l D sz xm g cI cZ (jp_O P) (jp_num P) (jp_au P) (jp_rv P) (jp_of P) (jp_pn P) (jp_bk P) (jp_lg P) (jp_wh P) (jp_ms P) (jp_wr P) (jp_dn P) (jp_tr P) (jp_wa P) tx si cd (by omega)) rfl rfl (Nat.le_of_ble_eq_true rfl) (Nat.le_of_ble_eq_true rfl) (fun r u hp => ⟨(((jp_O P), (jp_num P), (jp_au P), (jp_rv P), (jp_of P), (jp_pn P), (jp_bk P), (jp_lg P), (jp_wh P), (jp_ms P), (jp_wr P), 0, 0, (jp_wa P)), tx, si, nI 0), ⟨hp, jL_upx hj rfl rfl⟩, rfl⟩)⟩
  · exact ⟨_, S, xL_restart_n hI (by omega), jL_ofM (fun sz => m_M_restart_n l D sz xm g cI cZ (jp_O P) (jp_num P) (jp_au P) (jp_rv P) (jp_of P) (jp_pn P) (jp_bk P) (jp_lg P) (jp_wh P) (jp_ms P) (jp_wr P) (jp_dn P) (jp_tr P) (jp_wa P) tx si cd (by omega)) rfl rfl (Nat.le_of_ble_eq_true rfl) (Nat.le_of_ble_eq_true rfl) (fun r u hp => ⟨(P, tx, si, nI 0), ⟨hp, hj⟩, rfl⟩)⟩

set_option maxHeartbeats 4000000 in
set_option maxRecDepth 100000 in
theorem pL_connect (hI : jL_I (S, X, Y, M)) (hj : jr P S) (v : Int32) (b : Nat) (hb : b ≤ 1) : jL_A l D x f ad cI cZ cG cC xm g y_J_connect w_J_connect y_M_connect w_M_connect [.int v, .int (nI b)] (S, X, Y, M) (P, tx, si, cd) := by
  have hi : jt_inv S := hI.1.1
  have hx : ∀ c, c < 3 → jt_rc (X c) (js_cl S c) := hI.2.1
  have hy : jt_rv Y S := hI.2.2.1
  have hm : jt_rm M (js_L S) := hI.2.2.2
  have hwr9 : jp_wr P = js_N S := hj.1.1
  have hwr : jp_wr P ≤ 60 := by have := hi.1.1; omega
  have hwa : jp_wa P = (js_L S).2 := hj.2.2.1
  have hw0 : jp_wa P ≤ 30 := by have := hi.2.2.1; omega
  have hdn : jp_dn P = 1 - js_up S := hj.1.2.2.2.1
  have htr : jp_tr P = js_tr S := hj.1.2.2.2.2
  have hup : js_up S ≤ 1 := hi.1.2.2.2.1
  rcases jL_cd v with h | ⟨c, hc, rfl⟩
  · exact ⟨_, S, xL_connect_n hI v (nI b) h.1, jL_ofM (fun sz => m_M_connect_n l D sz xm g cI cZ (jp_O P) (jp_num P) (jp_au P) (jp_rv P) (jp_of P) (jp_pn P) (jp_bk P) (jp_lg P) (jp_wh P) (jp_ms P) (jp_wr P) (jp_dn P) (jp_tr P) (jp_wa P) tx si cd v (nI b) h.2) rfl rfl (Nat.le_of_ble_eq_true rfl) (Nat.le_of_ble_eq_true rfl) (fun r u hp => ⟨(P, tx, si, nI 0), ⟨hp, hj⟩, rfl⟩)⟩
  · skip
    obtain ⟨⟨c1, c2, c3, c4, c5⟩, c6, c7⟩ := hj.2.1 c hc
    obtain ⟨b1, b2, b3, b4, b5⟩ := jr_ln hi hc
    have hlg : jp_lg P c ≤ 80 := by omega
    have hok := jr_cOK (hj.2.1 c hc) (hi.2.1 c hc)
    have htx := jr_ctx (hj.2.1 c hc)
    by_cases e : jc_on (js_cl S c) = b
    · exact ⟨_, S, xL_connect_e hI hc b hb e, jL_ofM (fun sz => m_M_connect_e l D sz xm g cI cZ (jp_O P) (jp_num P) (jp_au P) (jp_rv P) (jp_of P) (jp_pn P) (jp_bk P) (jp_lg P) (jp_wh P) (jp_ms P) (jp_wr P) (jp_dn P) (jp_tr P) (jp_wa P) tx si cd c b hc (by omega) hb (by omega)) rfl rfl (Nat.le_of_ble_eq_true rfl) (Nat.le_of_ble_eq_true rfl) (fun r u hp => ⟨(P, tx, si, nI 0), ⟨hp, hj⟩, rfl⟩)⟩
    · rcases (by omega : b = 0 ∨ b = 1) with eb | eb
      · subst eb
        exact ⟨_, _, xL_connect_0 hI hc e (jL_inv_cn hI.1 hc (by decide)), jL_ofM (fun sz => m_M_connect_0 l D sz xm g cI cZ (jp_O P) (jp_num P) (jp_au P) (jp_rv P) (jp_of P) (jp_pn P) (jp_bk P) (jp_lg P) (jp_wh P) (jp_ms P) (jp_wr P) (jp_dn P) (jp_tr P) (jp_wa P) tx si cd c hc (by omega) (by omega) hw0) rfl rfl (Nat.le_of_ble_eq_true rfl) (Nat.le_of_ble_eq_true rfl) (fun r u hp => ⟨(((jq_speak (va_up (jp_of P) c (1 - 0) c) (jp_pn P c) (jp_rv P c) (jp_bk P c) c (jp_O P, jp_ms P, jp_wa P)).1, jp_num P, jp_au P, jp_rv P, va_up (jp_of P) c (1 - 0), jp_pn P, jp_bk P, jp_lg P, jp_wh P, (jq_speak (va_up (jp_of P) c (1 - 0) c) (jp_pn P c) (jp_rv P c) (jp_bk P c) c (jp_O P, jp_ms P, jp_wa P)).2.1, jp_wr P, jp_dn P, jp_tr P, (jq_speak (va_up (jp_of P) c (1 - 0) c) (jp_pn P c) (jp_rv P c) (jp_bk P c) c (jp_O P, jp_ms P, jp_wa P)).2.2), tx, si, nI 0), ⟨hp, jr_cn hj hi hc (by decide)⟩, rfl⟩)⟩
      · subst eb
        exact ⟨_, _, xL_connect_1 hI hc e (jL_inv_cn hI.1 hc (by decide)), jL_ofM (fun sz => m_M_connect_1 l D sz xm g cI cZ (jp_O P) (jp_num P) (jp_au P) (jp_rv P) (jp_of P) (jp_pn P) (jp_bk P) (jp_lg P) (jp_wh P) (jp_ms P) (jp_wr P) (jp_dn P) (jp_tr P) (jp_wa P) tx si cd c hc (by omega) (by omega) hw0) rfl rfl (Nat.le_of_ble_eq_true rfl) (Nat.le_of_ble_eq_true rfl) (fun r u hp => ⟨(((jq_speak (va_up (jp_of P) c (1 - 1) c) (jp_pn P c) (jp_rv P c) (jp_bk P c) c (jp_O P, jp_ms P, jp_wa P)).1, jp_num P, jp_au P, jp_rv P, va_up (jp_of P) c (1 - 1), jp_pn P, jp_bk P, jp_lg P, jp_wh P, (jq_speak (va_up (jp_of P) c (1 - 1) c) (jp_pn P c) (jp_rv P c) (jp_bk P c) c (jp_O P, jp_ms P, jp_wa P)).2.1, jp_wr P, jp_dn P, jp_tr P, (jq_speak (va_up (jp_of P) c (1 - 1) c) (jp_pn P c) (jp_rv P c) (jp_bk P c) c (jp_O P, jp_ms P, jp_wa P)).2.2), tx, si, nI 0), ⟨hp, jr_cn hj hi hc (by decide)⟩, rfl⟩)⟩

set_option maxHeartbeats 4000000 in
set_option maxRecDepth 100000 in
theorem pL_deliver (hI : jL_I (S, X, Y, M)) (hj : jr P S) (v : Int32) : jL_A l D x f ad cI cZ cG cC xm g y_J_deliver w_J_deliver y_M_deliver w_M_deliver [.int v] (S, X, Y, M) (P, tx, si, cd) := by
  have hi : jt_inv S := hI.1.1
  have hx : ∀ c, c < 3 → jt_rc (X c) (js_cl S c) := hI.2.1
  have hy : jt_rv Y S := hI.2.2.1
  have hm : jt_rm M (js_L S) := hI.2.2.2
  have hwr9 : jp_wr P = js_N S := hj.1.1
  have hwr : jp_wr P ≤ 60 := by have := hi.1.1; omega
  have hwa : jp_wa P = (js_L S).2 := hj.2.2.1
  have hw0 : jp_wa P ≤ 30 := by have := hi.2.2.1; omega
  have hdn : jp_dn P = 1 - js_up S := hj.1.2.2.2.1
  have htr : jp_tr P = js_tr S := hj.1.2.2.2.2
  have hup : js_up S ≤ 1 := hi.1.2.2.2.1
  rcases jL_ixd v (js_L S).2 (by have := hi.2.2.1; omega) with h | ⟨k, hk, rfl⟩
  · exact ⟨_, S, xL_deliver_n hI v h.1, jL_ofM (fun sz => m_M_deliver_n l D sz xm g cI cZ (jp_O P) (jp_num P) (jp_au P) (jp_rv P) (jp_of P) (jp_pn P) (jp_bk P) (jp_lg P) (jp_wh P) (jp_ms P) (jp_wr P) (jp_dn P) (jp_tr P) (jp_wa P) tx si cd v (by rw [hwa]; exact h.1)) rfl rfl (Nat.le_of_ble_eq_true rfl) (Nat.le_of_ble_eq_true rfl) (fun r u hp => ⟨(P, tx, si, nI 0), ⟨hp, hj⟩, rfl⟩)⟩
  · have q1 : jp_ms P k = _ := (hj.2.2.2 k hk).1
    have q2 := (hj.2.2.2 k hk).2
    have hmi := hi.2.2.2 k hk
    obtain ⟨g1, g2, g3⟩ := jr_dl1 hj hi hk
    obtain ⟨d1, d2⟩ := jr_dl hj hi hk
    have hN := hi.1.1
    have hc := hmi.1.2.1
    have hcb : (jp_ms P k).2.1 < 1000 := by rw [q1]; show ((js_L S).1 k).2.1 < 1000; omega
    have hab : (jp_ms P k).2.2.1 < 1000 := by rw [q1]; show ((js_L S).1 k).2.2.1 < 1000; have := hmi.1.2.2.2; omega
    have hmg : (jp_ms P k).1 ≤ 2 ∧ (jp_ms P k).2.2.2.2 < 256 ∧ ((jp_ms P k).2.2.2.2 = 0 → (jp_ms P k).1 = 1 → jp_dn P = 0 → (jp_ms P k).2.2.1 ≤ jp_wr P) := by rw [q1]; exact ⟨hmi.1.1, hmi.1.2.2.1, fun _ _ _ => by rw [hwr9]; exact hmi.1.2.2.2⟩
    have hH9 : (jp_ms P k).2.2.2.2 = 0 → (jp_ms P k).1 = 2 → jq_hh (jq_dl1 P k) (jp_ms P k).2.1 (jp_ms P k).2.2.1 := by
      rw [q1]
      intro _ e2
      have e2 : ((js_L S).1 k).1 = 2 := e2
      obtain ⟨n1, n2, n3⟩ := hmi.2.2 e2
      exact jr_hh g1 g3 hc n1 (g2.trans ((q2 (by omega)).trans n2))
    have hR9 : (jp_ms P k).2.2.2.2 = 0 → jp_dn P = 0 → (jp_ms P k).1 = 0 → jq_rh (jq_dl1 P k) (jp_ms P k).2.1 (jp_ms P k).2.2.1 (jp_ms P k).2.2.2.1 := by
      rw [q1]
      intro _ _ e4
      have e4 : ((js_L S).1 k).1 = 0 := e4
      have hmd : jt_mi (js_H S) (js_N S) (js_num S) (js_cl S) (0, ((js_L S).1 k).2.1, ((js_L S).1 k).2.2.1, ((js_L S).1 k).2.2.2.1, ((js_L S).1 k).2.2.2.2.1, ((js_L S).1 k).2.2.2.2.2) := by
        have z9 := e4
        rw [← z9]
        exact hmi
      exact jr_rh (k := ((js_L S).1 k).2.2.2.2.2) g1 g3 hmd (g2.trans (q2 (by omega)))
    exact ⟨_, _, xL_deliver_y hI hc k hk rfl (jL_inv_dl hI.1 hk), jL_ofM (fun sz => m_M_deliver_y l D sz xm g cI cZ P tx si cd k (by rw [hwa]; exact hk) hw0 hmg hcb hab hwr (by omega) hH9 hR9) rfl rfl (Nat.le_of_ble_eq_true rfl) (Nat.le_of_ble_eq_true rfl) (fun r u hp => ⟨(jq_dl P k, tx, si, nI 0), ⟨hp.trans d2, d1⟩, rfl⟩)⟩

set_option maxHeartbeats 4000000 in
set_option maxRecDepth 100000 in
theorem pL_tick (hI : jL_I (S, X, Y, M)) (hj : jr P S) : ∃ S' : jt_S, jL_XV l D x f ad cI cZ cG cC 8 160 y_J_tick w_J_tick [] (S, X, Y, M) (fun σ' => jL_I σ' ∧ σ'.1 = S') ∧ jL_MV l D xm g cI cZ y_M_tick w_M_tick [] (P, tx, si, cd) (fun t => jr t.1 S') := by
  have hi : jt_inv S := hI.1.1
  have hx : ∀ c, c < 3 → jt_rc (X c) (js_cl S c) := hI.2.1
  have hy : jt_rv Y S := hI.2.2.1
  have hm : jt_rm M (js_L S) := hI.2.2.2
  have hwr9 : jp_wr P = js_N S := hj.1.1
  have hwr : jp_wr P ≤ 60 := by have := hi.1.1; omega
  have hwa : jp_wa P = (js_L S).2 := hj.2.2.1
  have hw0 : jp_wa P ≤ 30 := by have := hi.2.2.1; omega
  have hdn : jp_dn P = 1 - js_up S := hj.1.2.2.2.1
  have htr : jp_tr P = js_tr S := hj.1.2.2.2.2
  have hup : js_up S ≤ 1 := hi.1.2.2.2.1
  exact ⟨_, xL_tick hI ⟨jt_inv_tick hi, hI.1.2⟩, jL_ofV (fun sz => m_M_tick l D sz xm g cI cZ (jp_O P) (jp_num P) (jp_au P) (jp_rv P) (jp_of P) (jp_pn P) (jp_bk P) (jp_lg P) (jp_wh P) (jp_ms P) (jp_wr P) (jp_dn P) (jp_tr P) (jp_wa P) tx si cd (fun c hc => by obtain ⟨⟨c1, c2, c3, c4, c5⟩, c6, c7⟩ := hj.2.1 c hc; omega) (fun c hc => by obtain ⟨⟨c1, c2, c3, c4, c5⟩, c6, c7⟩ := hj.2.1 c hc; obtain ⟨b1, b2⟩ := jr_ln hi hc; omega) hw0) rfl rfl (Nat.le_of_ble_eq_true rfl) (Nat.le_of_ble_eq_true rfl) (fun u hp => ⟨(jq_wL P (jq_speak (jp_of P 2) (jp_pn P 2) (jp_rv P 2) (jp_bk P 2) 2 (jq_speak (jp_of P 1) (jp_pn P 1) (jp_rv P 1) (jp_bk P 1) 1 (jq_speak (jp_of P 0) (jp_pn P 0) (jp_rv P 0) (jp_bk P 0) 0 (jp_O P, jp_ms P, jp_wa P)))), tx, si, nI 0), jr_tick hj hi, rfl⟩)⟩

end JLP
