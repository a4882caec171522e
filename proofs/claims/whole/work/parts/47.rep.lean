theorem jt_ct_len {l : Nat → jt_O} {c : Nat} : ∀ n, jt_ct l c n ≤ n := by
  intro n
  induction n with
  | zero => exact Nat.le_refl _
  | succ n ih =>
    rw [jt_ct]
    split <;> omega
theorem jr_hh {P : jq_P} {S : jt_S} {c i : Nat} (h : jr P S) (hI : jt_inv S) (hc : c < 3) (hi : i < js_N S) (ho : jp_O P 356 = js_H S i) : jq_hh P c i := by
  obtain ⟨⟨a1, a2, a3, a4, a5⟩, h2, h3⟩ := id h
  have hN := hI.1.1
  have hL30 := hI.2.2.1
  have hw : jp_wa P ≤ 30 := (show jp_wa P = (js_L S).2 from h3.1) ▸ hL30
  obtain ⟨⟨c1, c2, c3, c4, c5⟩, c6, c7⟩ := h2 c hc
  obtain ⟨b1, b2, b3, b4, b5⟩ := jr_ln hI hc
  refine ⟨hc, by omega, by omega, by omega, by omega, hw, by omega, fun e1 e2 => ⟨fun e3 => ?_, fun e3 => ⟨fun j hj => ?_, fun j hj => ?_⟩⟩⟩
  · rw [ho] at e3
    have er : i = jc_rv (js_cl S c) := by omega
    have := (jt_ci_own (hI.2.1 c hc) (by omega) (er ▸ e3)).1
    omega
  · have er : i = jc_rv (js_cl S c) := by omega
    have hh := (jr_hr (O := jp_O P) (pe := jc_pe (js_cl S c)) hc b1 c6 j (by omega)).1
    rw [ho, er] at hh
    rw [hh]
    exact ⟨jt_osm (hI.2.1 c hc) hI.1.2.1 hN (by omega) j (by omega), (jt_oc_ok (hI.2.1 c hc).2.1.2.1 (hI.1.2.1 (jc_rv (js_cl S c)) (by omega)).1 j (by omega)).1.1⟩
  · rw [c6 j (by omega)]
    exact ⟨jt_ci_psm (hI.2.1 c hc) hN j (by omega), ((hI.2.1 c hc).2.1.2.1 j (by omega)).1.1⟩
theorem jr_rh {P : jq_P} {S : jt_S} {c r n k : Nat} {o : jt_O} (h : jr P S) (hI : jt_inv S) (hm : jt_mi (js_H S) (js_N S) (js_num S) (js_cl S) (0, c, r, n, o, k)) (ho : jp_O P 356 = o) : jq_rh P c r n := by
  obtain ⟨⟨a1, a2, a3, a4, a5⟩, h2, h3⟩ := id h
  have hN := hI.1.1
  have hL30 := hI.2.2.1
  have hc : c < 3 := hm.1.2.1
  have hr : r ≤ js_N S := hm.1.2.2.2
  have hw : jp_wa P ≤ 30 := (show jp_wa P = (js_L S).2 from h3.1) ▸ hL30
  have hau := a3 c hc
  have htr := hI.1.2.2.2.2
  obtain ⟨m1, m2, m3, m4, m5⟩ := hm.2.1 rfl
  have m4 : n ≤ jc_bk (js_cl S c) := m4
  have m1 : jt_ok (jt_le (js_H S) r) o := m1
  have m2 : jt_wf o := m2
  have hbk := (hI.2.1 c hc).2.2.1.1
  have hct : jt_ct (js_H S) c (js_N S) ≤ js_N S := jt_ct_len _
  have hct2 : jt_ct (js_H S) c (jc_rv (js_cl S c)) ≤ jc_rv (js_cl S c) := jt_ct_len _
  obtain ⟨b1, b2, b3, b4, b5⟩ := jr_ln hI hc
  refine ⟨hc, by omega, by omega, by omega, by omega, hw, by omega, fun e1 e2 => ⟨fun j hj => ?_, fun i hi => ?_⟩⟩
  · have hrm : jq_rm (jp_O P) r j 356 = jt_ms (js_H S) r o j := by
      rw [← ho]
      exact jr_rm _ (fun i hi => by rw [(a2 (r + i) (by omega)).1]; exact ⟨rfl, rfl, rfl⟩)
    rw [hrm]
    have hok := jt_ms_ok hI.1.2.1 m1 j (by omega)
    have hle := jt_le_le (js_H S) (r + j)
    exact ⟨jt_sm_of hok (jt_ms_wf m2 j) (by omega), hok.1⟩
  · have hi : i < js_N S := by omega
    rw [(a2 i hi).1]
    have hok := hI.1.2.1 i hi
    have hle := jt_le_le (js_H S) i
    exact ⟨jt_sm_of hok.1 hok.2 (by omega), hok.1.1⟩
theorem jr_dl1 {P : jq_P} {S : jt_S} {k : Nat} (h : jr P S) (hI : jt_inv S) (hk : k < (js_L S).2) : jr (jq_dl1 P k) (jt_s_L S (jt_tk (js_L S) k)) ∧ jp_O (jq_dl1 P k) 356 = jp_O P (324 + k) ∧ jt_inv (jt_s_L S (jt_tk (js_L S) k)) := by
  have hL30 := hI.2.2.1
  have hw : jp_wa P ≤ 30 := (show jp_wa P = (js_L S).2 from h.2.2.1) ▸ hL30
  have hl : jr_l (va_up (jp_O P) 356 (jp_O P (324 + k)), jp_ms P, jp_wa P) (js_L S) := jr_l_O h.2.2 (fun i hi => va_up_ne _ _ (by omega))
  refine ⟨jr_wL (Q := jq_take (va_up (jp_O P) 356 (jp_O P (324 + k)), jp_ms P, jp_wa P) k) h hI (jr_l_take hl hk) (fun i hi => ?_), ?_, jt_inv_L hI (jt_li_tk (jt_inv_li hI) hk)⟩
  · rw [jq_take_out (Or.inl hi) hw]
    exact va_up_ne _ _ (by omega)
  · show (jq_take (va_up (jp_O P) 356 (jp_O P (324 + k)), jp_ms P, jp_wa P) k).1 356 = _
    rw [jq_take_out (Or.inr (by decide)) hw]
    exact va_up_self (jp_O P) 356 (jp_O P (324 + k))
/-- a message delivered: both come to the same -/
theorem jr_dl {P : jq_P} {S : jt_S} {k : Nat} (h : jr P S) (hI : jt_inv S) (hk : k < (js_L S).2) : jr (jq_dl P k) (jt_s_dl S k) ∧ jq_da P k = jt_da S k := by
  obtain ⟨g1, g2, g3⟩ := jr_dl1 h hI hk
  obtain ⟨q1, q2⟩ := h.2.2.2 k hk
  have q1 : jp_ms P k = _ := q1
  have hm := hI.2.2.2 k hk
  have hdn : jp_dn P = 1 - js_up S := h.1.2.2.2.1
  have hup := hI.1.2.2.2.1
  unfold jq_dl jt_s_dl jq_da jt_da
  rw [q1]
  dsimp only
  by_cases e1 : ((js_L S).1 k).2.2.2.2.2 ≠ 0
  · rw [if_pos e1, if_pos e1, if_pos e1]; exact ⟨g1, rfl⟩
  · rw [if_neg e1, if_neg e1, if_neg e1]
    refine ⟨?_, rfl⟩
    by_cases e2 : ((js_L S).1 k).1 = 2
    · rw [if_pos e2, if_pos e2]
      obtain ⟨n1, n2, n3⟩ := hm.2.2 e2
      exact jr_hear g1 g3 hm.1.2.1 n1 (g2.trans ((q2 (by omega)).trans n2))
    · rw [if_neg e2, if_neg e2]
      by_cases e3 : js_up S = 0
      · rw [if_pos e3, if_pos (by omega)]; exact g1
      · rw [if_neg e3, if_neg (by omega)]
        by_cases e4 : ((js_L S).1 k).1 = 0
        · rw [if_pos e4, if_pos e4]
          have hmd : jt_mi (js_H S) (js_N S) (js_num S) (js_cl S) (0, ((js_L S).1 k).2.1, ((js_L S).1 k).2.2.1, ((js_L S).1 k).2.2.2.1, ((js_L S).1 k).2.2.2.2.1, ((js_L S).1 k).2.2.2.2.2) := by
            have z9 := e4
            rw [← z9]
            exact hm
          exact jr_recv (k := ((js_L S).1 k).2.2.2.2.2) g1 g3 hmd (g2.trans (q2 (by omega)))
        · rw [if_neg e4, if_neg e4]
          exact jr_answ g1 g3 hm.1.2.2.2
