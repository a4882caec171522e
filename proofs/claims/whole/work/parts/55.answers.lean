/-! The answers side by side. -/
theorem jr_qm {P : jq_P} {S : jt_S} {k : Nat} (h : jr P S) (hk : k < (js_L S).2) (w : Int32) : jq_qm (jp_ms P k) w = jt_qm (js_L S) k w := by
  have q : jp_ms P k = _ := (h.2.2.2 k hk).1
  rw [q]
  rfl
theorem jr_qo {P : jq_P} {S : jt_S} {i : Nat} (h : jr P S) (hi : i < js_N S) (w : Int32) : jt_qo (jp_O P) (jp_num P) i w = jt_qo (js_H S) (js_num S) i w := by
  obtain ⟨h1, h2⟩ := h.1.2.1 i hi
  unfold jt_qo
  rw [h1, h2]
theorem jr_htx {P : jq_P} {S : jt_S} (h : jr P S) : ∀ n, n ≤ js_N S → jt_tx (jq_at (jp_O P) 0) n = jt_tx (js_H S) n := fun n hn => jr_tx n (fun i hi => by
  show jr_o (jp_O P (0 + i)) (js_H S i)
  rw [Nat.zero_add, (h.1.2.1 i (by omega)).1]
  exact ⟨rfl, rfl, fun _ => rfl⟩)
theorem jr_hok {P : jq_P} {S : jt_S} (h : jr P S) (hI : jt_inv S) : ∀ i, i < jp_wr P → jt_ok (jt_tx (jq_at (jp_O P) 0) i).2 (jp_O P (0 + i)) := fun i hi => by
  have hi : i < js_N S := h.1.1 ▸ hi
  rw [jr_htx h i (by omega), Nat.zero_add, (h.1.2.1 i hi).1]
  exact (hI.1.2.1 i hi).1
theorem jr_usm {O : Nat → jt_O} {rv of pn bk lg wh : Nat → Nat} {c N j : Nat} {C : jt_C} {H : Nat → jt_O} (h : jr_c O rv of pn bk lg wh c C) (hC : jt_ci H N c C) (hN : N ≤ 60) (hc : c < 3) (hl : jc_ln C ≤ 68) (hj : j < jc_ln C) (hf : jc_lf C j = 1) : ∀ i, i ≤ lg c - (j + 1) → jt_sm (jq_rm (va_up O 356 (jq_iv O (60 + 80 * c + j) c)) (60 + 80 * c + j + 1) i 356) ∧ (jq_rm (va_up O 356 (jq_iv O (60 + 80 * c + j) c)) (60 + 80 * c + j + 1) i 356).1 ≤ 2 := fun i hi => by
  rw [h.1.2.2.2.2] at hi
  rw [jr_bo h hC hc (by omega) hj hf i hi]
  exact ⟨jt_bsm hC hN hj hf i (by omega), (jt_ms_ok hC.2.1.1 (jt_iv_ok hC hj hf).1 i (by omega)).1⟩
theorem jr_ups {O : Nat → jt_O} {rv of pn bk lg wh : Nat → Nat} {c N : Nat} {C : jt_C} {H : Nat → jt_O} (h : jr_c O rv of pn bk lg wh c C) (hC : jt_ci H N c C) (hl : jc_ln C ≤ 68) : ∀ i, i < lg c → jt_sb (O (60 + 80 * c + i)) ∧ (O (60 + 80 * c + i)).1 ≤ 2 := fun i hi => by
  rw [h.1.2.2.2.2] at hi
  obtain ⟨g1, ⟨g2, g3, g4⟩, g5, g6⟩ := h.2.2 i hi
  have hok := hC.2.1.1 i hi
  have hle := jt_le_le (jc_lo C) i
  have hs := jt_sm_of hok.1 hok.2 (by omega)
  unfold jt_sb
  rw [g2, g3, g5]
  exact ⟨⟨hs.1, hs.2.1, hs.2.2.2⟩, hok.1.1⟩
