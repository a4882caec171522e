theorem jr_wO {P : jq_P} {S : jt_S} {O2 : Nat → jt_O} (h : jr P S) (hI : jt_inv S) (hO : ∀ i, i < 354 → O2 i = jp_O P i) : jr (O2, jp_num P, jp_au P, jp_rv P, jp_of P, jp_pn P, jp_bk P, jp_lg P, jp_wh P, jp_ms P, jp_wr P, jp_dn P, jp_tr P, jp_wa P) S := by
  have hL30 := hI.2.2.1
  exact jr_wL (Q := (O2, jp_ms P, jp_wa P)) (L := js_L S) h hI (jr_l_O h.2.2 (fun k hk => hO _ (by omega))) (fun i hi => hO i (by omega))
theorem jr_en {P : jq_P} {S : jt_S} {O2 : Nat → jt_O} {c n : Nat} (h : jr P S) (hI : jt_inv S) (hN60 : js_N S < 60) (hO : ∀ i, i < 354 → i ≠ js_N S → O2 i = jp_O P i) (hs : (O2 (js_N S)).2.2.2 = c) : jr (O2, va_up (jp_num P) (jp_wr P) n, va_up (jp_au P) c (jp_au P c + 1), jp_rv P, jp_of P, jp_pn P, jp_bk P, jp_lg P, jp_wh P, jp_ms P, jp_wr P + 1, jp_dn P, jp_tr P, jp_wa P) (jt_s_en S (O2 (js_N S)) n) := by
  obtain ⟨⟨a1, a2, a3, a4, a5⟩, h2, h3⟩ := id h
  have hL30 := hI.2.2.1
  refine ⟨⟨by show jp_wr P + 1 = js_N S + 1; omega, fun i hi => ?_, fun d hd => ?_, a4, a5⟩, fun d hd => ?_, ?_⟩
  · have hi : i < js_N S + 1 := hi
    show O2 i = va_up (js_H S) (js_N S) (O2 (js_N S)) i ∧ va_up (jp_num P) (jp_wr P) n i = va_up (js_num S) (js_N S) n i
    rw [a1]
    by_cases e : i = js_N S
    · rw [e, va_up_self, va_up_self, va_up_self]; exact ⟨rfl, rfl⟩
    · rw [va_up_ne _ _ e, va_up_ne _ _ e, va_up_ne _ _ e, hO i (by omega) e]; exact a2 i (by omega)
  · show va_up (jp_au P) c (jp_au P c + 1) d = jt_ct (va_up (js_H S) (js_N S) (O2 (js_N S))) d (js_N S + 1)
    rw [jt_ct, va_up_self, jt_ct_up (Nat.le_refl _)]
    by_cases e : d = c
    · rw [e, va_up_self, if_pos hs, a3 c (e ▸ hd)]
    · rw [va_up_ne _ _ e, if_neg (by omega), a3 d hd]
  · obtain ⟨f1, f2, f3, f4, f5⟩ := jr_ln hI hd
    obtain ⟨d1, d2, d3⟩ := h2 d hd
    refine ⟨d1, fun i hi => ?_, fun i hi => ?_⟩
    · have hi : i < jc_pn (js_cl S d) := hi
      show O2 (300 + 8 * d + i) = _
      rw [hO _ (by omega) (by omega)]; exact d2 i hi
    · have hi : i < jc_ln (js_cl S d) := hi
      have q := d3 i hi
      rw [← hO (60 + 80 * d + i) (by omega) (by omega)] at q
      exact q
  · exact jr_l_O h3 (fun k hk => hO _ (by have hk : k < (js_L S).2 := hk; omega) (by omega))
theorem jr_l_n3 {Q : jq_L} {L : jt_L} {H : Nat → jt_O} {nu num : Nat → Nat} {i : Nat} (h : jr_l Q L) (hL : L.2 ≤ 30) (hi : i < 324) (ho : Q.1 i = H i) (hn : nu i = num i) : jr_l (jq_n3 nu i Q) (jt_na H num i L 3) := by
  have e : jq_n3 nu i Q = jq_n3 num i Q := by unfold jq_n3; rw [hn]
  rw [e]
  have hQ : Q.2.2 ≤ 30 := by rw [h.1]; exact hL
  have h1 : jr_l (jq_send Q (2, 0, i, num i, 0) i) (jt_na H num i L 1) := jr_l_send h hL ho
  have h2 : jr_l (jq_send (jq_send Q (2, 0, i, num i, 0) i) (2, 1, i, num i, 0) i) (jt_na H num i L 2) := jr_l_send h1 (jt_sd_le hL) (by rw [jq_send_out (Or.inl hi) hQ]; exact ho)
  exact jr_l_send h2 (jt_sd_le (jt_sd_le hL)) (by rw [jq_send_out (Or.inl hi) (jq_send_le hQ), jq_send_out (Or.inl hi) hQ]; exact ho)
theorem jq_n3_out {num : Nat → Nat} {i k : Nat} {Q : jq_L} (h : k < 324 ∨ 354 ≤ k) (hQ : Q.2.2 ≤ 30) : (jq_n3 num i Q).1 k = Q.1 k := by
  unfold jq_n3
  rw [jq_send_out h (jq_send_le (jq_send_le hQ)), jq_send_out h (jq_send_le hQ), jq_send_out h hQ]
theorem jr_answ {P : jq_P} {S : jt_S} {c r : Nat} (h : jr P S) (hI : jt_inv S) (hr : r ≤ js_N S) : jr (jq_answ P c r) (jt_s_L S (jt_nw (js_H S) (js_num S) c r (js_L S) (js_N S - r))) := by
  obtain ⟨⟨a1, a2, a3, a4, a5⟩, h2, h3⟩ := id h
  have hN := hI.1.1
  have hL30 := hI.2.2.1
  have hw : jp_wa P ≤ 30 := (show jp_wa P = (js_L S).2 from h3.1) ▸ hL30
  have e : jq_answ P c r = jq_wL P (jq_ans (jp_num P) c r (jp_O P, jp_ms P, jp_wa P) (js_N S - r)) := by rw [← a1]; rfl
  rw [e]
  exact jr_wL h hI (jr_l_ans h3 hL30 _ (by omega) (fun i hi => a2 i (by omega))) (fun i hi => jq_ans_out (Or.inl hi) hw _)
theorem jr_recv {P : jq_P} {S : jt_S} {c r n k : Nat} {o : jt_O} (h : jr P S) (hI : jt_inv S) (hm : jt_mi (js_H S) (js_N S) (js_num S) (js_cl S) (0, c, r, n, o, k)) (ho : jp_O P 356 = o) : jr (jq_recv P c r n) (jt_s_ed S c r n o) := by
  obtain ⟨⟨a1, a2, a3, a4, a5⟩, h2, h3⟩ := id h
  have hN := hI.1.1
  have hL30 := hI.2.2.1
  have hc : c < 3 := hm.1.2.1
  have hr : r ≤ js_N S := hm.1.2.2.2
  have hw : jp_wa P ≤ 30 := (show jp_wa P = (js_L S).2 from h3.1) ▸ hL30
  have hau := a3 c hc
  unfold jq_recv jt_s_ed
  by_cases e1 : n < jt_ct (js_H S) c (js_N S)
  · rw [if_pos e1, if_pos (by omega)]; exact jr_answ h hI hr
  · rw [if_neg e1, if_neg (by omega)]
    by_cases e2 : jt_ct (js_H S) c (js_N S) < n ∨ 60 ≤ js_N S
    · rw [if_pos e2, if_pos (by omega)]; exact h
    · rw [if_neg e2, if_neg (by omega), a5]
      have hrm : jq_rm (jp_O P) r (js_N S - r) 356 = jt_ms (js_H S) r o (js_N S - r) := by
        rw [← ho]
        exact jr_rm _ (fun i hi => by rw [(a2 (r + i) (by omega)).1]; exact ⟨rfl, rfl, rfl⟩)
      have hro : ∀ i, i < 354 → jq_rm (jp_O P) r (js_N S - r) i = jp_O P i := fun i hi => jq_rm_out (by omega) _
      by_cases e3 : js_tr S = 1
      · rw [if_pos e3, if_pos e3]
        have hP := jr_up (u := 0) (t := js_tr S) (jr_wO (O2 := jq_rm (jp_O P) r (js_N S - r)) h hI hro)
        rw [← a1] at hP
        rw [← a5] at hP ⊢
        exact hP
      · rw [if_neg e3, if_neg e3]
        have hs : (jt_ms (js_H S) r o (js_N S - r)).2.2.2 = c := by rw [jt_ms_site]; exact (hm.2.1 rfl).2.2.1
        have hO2 : va_up (jq_rm (jp_O P) r (js_N S - r)) (js_N S) (jt_ms (js_H S) r o (js_N S - r)) (js_N S) = jt_ms (js_H S) r o (js_N S - r) := va_up_self _ _ _
        have hE := jr_en (P := P) (S := S) (O2 := va_up (jq_rm (jp_O P) r (js_N S - r)) (js_N S) (jt_ms (js_H S) r o (js_N S - r))) (c := c) (n := n) h hI (by omega) (fun i hi z => by rw [va_up_ne _ _ z]; exact hro i hi) (by rw [hO2]; exact hs)
        rw [hO2] at hE
        have hIE := jt_inv_en (k := k) hI (show js_N S < 60 by omega) hm (show n = jt_ct (js_H S) c (js_N S) by omega)
        by_cases e4 : js_tr S = 2
        · rw [if_pos e4, if_pos e4]
          have hP := jr_up (u := 0) (t := js_tr S) hE
          rw [a1, hrm]
          rw [a1] at hP
          rw [← a5] at hP ⊢
          exact hP
        · rw [if_neg e4, if_neg e4]
          rw [a1, hrm]
          rw [a1, a5] at hE
          refine jr_wL (Q := jq_n3 (va_up (jp_num P) (js_N S) n) (js_N S) (va_up (jq_rm (jp_O P) r (js_N S - r)) (js_N S) (jt_ms (js_H S) r o (js_N S - r)), jp_ms P, jp_wa P)) hE hIE ?_ (fun i hi => jq_n3_out (Or.inl hi) hw)
          exact jr_l_n3 hE.2.2 hL30 (by omega) (by show va_up _ (js_N S) _ (js_N S) = va_up _ (js_N S) _ (js_N S); rw [va_up_self, va_up_self]) (by rw [va_up_self, va_up_self])
