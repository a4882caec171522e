theorem jr_ud {P : jq_P} {S : jt_S} {c j : Nat} (h : jr P S) (hI : jt_inv S) (hc : c < 3) (hj : j < jc_ln (js_cl S c)) : jr (jp_O P, jp_num P, jp_au P, jp_rv P, jp_of P, jp_pn P, jp_bk P, jp_lg P, va_up (jp_wh P) (80 * c + j) 3, jp_ms P, jp_wr P, jp_dn P, jp_tr P, jp_wa P) (jt_s_ud S c j) := by
  obtain ⟨a, h2, h3⟩ := id h
  obtain ⟨b1, b2, b3, b4, b5⟩ := jr_ln hI hc
  refine ⟨a, fun d hd => ?_, h3⟩
  show jr_c (jp_O P) (jp_rv P) (jp_of P) (jp_pn P) (jp_bk P) (jp_lg P) (va_up (jp_wh P) (80 * c + j) 3) d (va_up (js_cl S) c (jt_ud (js_cl S c) j) d)
  obtain ⟨d1, d2, d3⟩ := h2 d hd
  obtain ⟨f1, f2, f3, f4, f5⟩ := jr_ln hI hd
  by_cases e : d = c
  · rw [e] at d1 d2 d3 ⊢
    rw [va_up_self]
    refine ⟨d1, d2, fun i hi => ?_⟩
    have hi : i < jc_ln (js_cl S c) := hi
    obtain ⟨g1, g2, g3, g4⟩ := d3 i hi
    show va_up (jp_wh P) (80 * c + j) 3 (80 * c + i) = va_up (jc_lf (js_cl S c)) j 3 i ∧ jr_o _ (jc_lo (js_cl S c) i) ∧ _ = (jc_lo (js_cl S c) i).2.2.2 ∧ ((jc_lo (js_cl S c) i).1 = 2 → va_up (jc_lf (js_cl S c)) j 3 i = 1 → _ = jc_lc (js_cl S c) i)
    by_cases ei : i = j
    · rw [ei, va_up_self, va_up_self]
      rw [ei] at g2 g3
      exact ⟨rfl, g2, g3, fun _ z => absurd z (by decide)⟩
    · rw [va_up_ne _ _ ei, va_up_ne _ _ (by omega)]
      exact ⟨g1, g2, g3, g4⟩
  · rw [va_up_ne _ _ e]
    refine ⟨d1, d2, fun i hi => ?_⟩
    rw [va_up_ne _ _ (by omega)]
    exact d3 i hi
theorem jr_rm2 {O l : Nat → jt_O} {b r : Nat} : ∀ j, (∀ i, i < j → (O (b + (r + i))).1 = (l (r + i)).1 ∧ (O (b + (r + i))).2.1 = (l (r + i)).2.1 ∧ (O (b + (r + i))).2.2.2 = (l (r + i)).2.2.2) → jq_rm O (b + r) j 356 = jt_ms l r (O 356) j := by
  intro j
  induction j with
  | zero => intro _; rfl
  | succ j ih =>
    intro h
    obtain ⟨h1, h2, h3⟩ := h j (by omega)
    rw [jq_rm, va_up_self, ih (fun i hi => h i (by omega)), jt_ms, Nat.add_assoc, jr_mv h1 h2 h3]
theorem jr_iv {O : Nat → jt_O} {rv of pn bk lg wh : Nat → Nat} {c N j : Nat} {C : jt_C} {H : Nat → jt_O} (h : jr_c O rv of pn bk lg wh c C) (hC : jt_ci H N c C) (hj : j < jc_ln C) (hf : jc_lf C j = 1) : jq_iv O (60 + 80 * c + j) c = jt_iv C j := by
  obtain ⟨g1, ⟨g2, g3, g4⟩, g5, g6⟩ := h.2.2 j hj
  obtain ⟨k1, k2, k3⟩ := hC.2.2.2 j hj hf
  have k4 := (hC.2.1.1 j hj).1.1
  unfold jq_iv jt_iv
  rw [g2, g3, k2]
  by_cases e : (jc_lo C j).1 = 1
  · rw [if_pos e, if_pos e]
  · rw [if_neg e, if_neg e, g6 (by omega) hf]
theorem jr_bo {O : Nat → jt_O} {rv of pn bk lg wh : Nat → Nat} {c N j : Nat} {C : jt_C} {H : Nat → jt_O} (h : jr_c O rv of pn bk lg wh c C) (hC : jt_ci H N c C) (hc : c < 3) (hl : jc_ln C ≤ 80) (hj : j < jc_ln C) (hf : jc_lf C j = 1) : ∀ i, i ≤ jc_ln C - (j + 1) → jq_rm (va_up O 356 (jq_iv O (60 + 80 * c + j) c)) (60 + 80 * c + j + 1) i 356 = jt_ms (jc_lo C) (j + 1) (jt_iv C j) i := by
  intro i hi
  have e := jr_rm2 (O := va_up O 356 (jq_iv O (60 + 80 * c + j) c)) (l := jc_lo C) (b := 60 + 80 * c) (r := j + 1) i (fun k hk => by
    rw [va_up_ne _ _ (by omega)]
    obtain ⟨g1, ⟨g2, g3, g4⟩, g5, g6⟩ := h.2.2 (j + 1 + k) (by omega)
    exact ⟨g2, g3, g5⟩)
  rw [va_up_self, jr_iv h hC hj hf] at e
  rw [jr_iv h hC hj hf]
  exact e
theorem jr_wh {O : Nat → jt_O} {rv of pn bk lg wh : Nat → Nat} {c : Nat} {C : jt_C} (h : jr_c O rv of pn bk lg wh c C) : ∀ i, i < lg c → wh (80 * c + i) = jc_lf C i := fun i hi => (h.2.2 i (by rw [← h.1.2.2.2.2]; exact hi)).1
/-- what a client sends again, beside the reference's -/
theorem jr_l_sp {P : jq_P} {S : jt_S} {Q : jq_L} {L : jt_L} {c : Nat} (h : jr P S) (hI : jt_inv S) (hc : c < 3) (hQ : jr_l Q L) (hL : L.2 ≤ 30) (hO : ∀ i, i < 324 → Q.1 i = jp_O P i) : jr_l (jq_speak (jp_of P c) (jp_pn P c) (jp_rv P c) (jp_bk P c) c Q) (jt_sa c (js_cl S c) L) ∧ ∀ i, i < 324 → (jq_speak (jp_of P c) (jp_pn P c) (jp_rv P c) (jp_bk P c) c Q).1 i = jp_O P i := by
  obtain ⟨⟨c1, c2, c3, c4, c5⟩, c6, c7⟩ := h.2.1 c hc
  obtain ⟨b1, b2, b3, b4, b5⟩ := jr_ln hI hc
  refine ⟨?_, fun i hi => ?_⟩
  · rw [c1, c2, c3, c4]
    exact jr_l_speak hQ hL b3 (fun z => by rw [hO _ (by omega)]; exact c6 0 (by omega))
  · rw [jq_speak_out (Or.inl hi) (by rw [hQ.1]; exact hL)]
    exact hO i hi
theorem jr_tick {P : jq_P} {S : jt_S} (h : jr P S) (hI : jt_inv S) : jr (jq_wL P (jq_speak (jp_of P 2) (jp_pn P 2) (jp_rv P 2) (jp_bk P 2) 2 (jq_speak (jp_of P 1) (jp_pn P 1) (jp_rv P 1) (jp_bk P 1) 1 (jq_speak (jp_of P 0) (jp_pn P 0) (jp_rv P 0) (jp_bk P 0) 0 (jp_O P, jp_ms P, jp_wa P))))) (jt_s_L S (jt_sa 2 (js_cl S 2) (jt_sa 1 (js_cl S 1) (jt_sa 0 (js_cl S 0) (js_L S))))) := by
  have hL30 := hI.2.2.1
  obtain ⟨x1, y1⟩ := jr_l_sp (c := 0) h hI (by decide) h.2.2 hL30 (fun _ _ => rfl)
  obtain ⟨x2, y2⟩ := jr_l_sp (c := 1) h hI (by decide) x1 (jt_sa_le hL30) y1
  obtain ⟨x3, y3⟩ := jr_l_sp (c := 2) h hI (by decide) x2 (jt_sa_le (jt_sa_le hL30)) y2
  exact jr_wL h hI x3 y3
theorem jt_inv_tick {S : jt_S} (hI : jt_inv S) : jt_inv (jt_s_L S (jt_sa 2 (js_cl S 2) (jt_sa 1 (js_cl S 1) (jt_sa 0 (js_cl S 0) (js_L S))))) :=
  jt_inv_L hI (jt_li_sa (jt_li_sa (jt_li_sa (jt_inv_li hI) (by decide) (hI.2.1 0 (by decide))) (by decide) (hI.2.1 1 (by decide))) (by decide) (hI.2.1 2 (by decide)))
/-- a client goes off or on -/
def jt_s_cn (S : jt_S) (c b : Nat) : jt_S := (js_H S, js_N S, js_num S, va_up (js_cl S) c (jt_cn (js_cl S c) b), jt_sa c (jt_cn (js_cl S c) b) (js_L S), js_up S, js_tr S)
theorem jt_inv_cn {S : jt_S} {c b : Nat} (hI : jt_inv S) (hc : c < 3) (hb : b ≤ 1) : jt_inv (jt_s_cn S c b) := by
  obtain ⟨h1, h2, h3, h4⟩ := id hI
  have hC : jt_ci (js_H S) (js_N S) c (jt_cn (js_cl S c) b) := by
    obtain ⟨⟨a1, a2, a3, a4⟩, a5, a6, a7⟩ := h2 c hc
    exact ⟨⟨a1, a2, a3, hb⟩, a5, a6, a7⟩
  have hcl : ∀ d, d < 3 → jt_ci (js_H S) (js_N S) d (va_up (js_cl S) c (jt_cn (js_cl S c) b) d) := fun d hd => by
    by_cases e : d = c
    · rw [e, va_up_self]; exact hC
    · rw [va_up_ne _ _ e]; exact h2 d hd
  refine ⟨h1, hcl, ?_⟩
  have hl : jt_li (js_H S) (js_N S) (js_num S) (va_up (js_cl S) c (jt_cn (js_cl S c) b)) (js_L S) := ⟨h3, fun k hk => jt_mi_same (h4 k hk) rfl rfl rfl rfl⟩
  have := jt_li_sa hl hc (hcl c hc)
  rw [va_up_self] at this
  exact this
theorem jr_cn {P : jq_P} {S : jt_S} {c b : Nat} (h : jr P S) (hI : jt_inv S) (hc : c < 3) (hb : b ≤ 1) : jr ((jq_speak (va_up (jp_of P) c (1 - b) c) (jp_pn P c) (jp_rv P c) (jp_bk P c) c (jp_O P, jp_ms P, jp_wa P)).1, jp_num P, jp_au P, jp_rv P, va_up (jp_of P) c (1 - b), jp_pn P, jp_bk P, jp_lg P, jp_wh P, (jq_speak (va_up (jp_of P) c (1 - b) c) (jp_pn P c) (jp_rv P c) (jp_bk P c) c (jp_O P, jp_ms P, jp_wa P)).2.1, jp_wr P, jp_dn P, jp_tr P, (jq_speak (va_up (jp_of P) c (1 - b) c) (jp_pn P c) (jp_rv P c) (jp_bk P c) c (jp_O P, jp_ms P, jp_wa P)).2.2) (jt_s_cn S c b) := by
  have hL30 := hI.2.2.1
  let P1 : jq_P := (jp_O P, jp_num P, jp_au P, jp_rv P, va_up (jp_of P) c (1 - b), jp_pn P, jp_bk P, jp_lg P, jp_wh P, jp_ms P, jp_wr P, jp_dn P, jp_tr P, jp_wa P)
  let S1 : jt_S := (js_H S, js_N S, js_num S, va_up (js_cl S) c (jt_cn (js_cl S c) b), js_L S, js_up S, js_tr S)
  have hI1 : jt_inv S1 := by
    obtain ⟨h1, h2, h3⟩ := jt_inv_cn hI hc hb
    exact ⟨h1, h2, ⟨hI.2.2.1, fun k hk => jt_mi_same (hI.2.2.2 k hk) rfl rfl rfl rfl⟩⟩
  have hr1 : jr P1 S1 := by
    obtain ⟨a, h2, h3⟩ := id h
    refine ⟨a, fun d hd => ?_, h3⟩
    show jr_c (jp_O P) (jp_rv P) (va_up (jp_of P) c (1 - b)) (jp_pn P) (jp_bk P) (jp_lg P) (jp_wh P) d (va_up (js_cl S) c (jt_cn (js_cl S c) b) d)
    obtain ⟨⟨d1, d2, d3, d4, d5⟩, d6, d7⟩ := h2 d hd
    by_cases e : d = c
    · rw [e] at d1 d2 d3 d4 d5 d6 d7 ⊢
      rw [va_up_self]
      exact ⟨⟨d1, by rw [va_up_self]; rfl, d3, d4, d5⟩, d6, d7⟩
    · rw [va_up_ne _ _ e]
      exact ⟨⟨d1, by rw [va_up_ne _ _ e]; exact d2, d3, d4, d5⟩, d6, d7⟩
  obtain ⟨x1, y1⟩ := jr_l_sp (P := P1) (S := S1) (c := c) (Q := (jp_O P, jp_ms P, jp_wa P)) (L := js_L S) hr1 hI1 hc h.2.2 hL30 (fun _ _ => rfl)
  have e1 : js_cl S1 c = jt_cn (js_cl S c) b := va_up_self _ _ _
  rw [e1] at x1
  exact jr_wL hr1 hI1 x1 y1
/-- the new state -/
theorem jr_0 : jr (fun _ => (0, 0, 0, 0), fun _ => 0, fun _ => 0, fun _ => 0, fun _ => 0, fun _ => 0, fun _ => 0, fun _ => 0, fun _ => 0, fun _ => (0, 0, 0, 0, 0), 0, 0, 0, 0) jt_s_0 :=
  ⟨⟨rfl, fun i hi => absurd hi (Nat.not_lt_zero _), fun _ _ => rfl, rfl, rfl⟩, fun c hc => ⟨⟨rfl, rfl, rfl, rfl, rfl⟩, fun i hi => absurd hi (Nat.not_lt_zero _), fun i hi => absurd hi (Nat.not_lt_zero _)⟩, rfl, fun k hk => absurd hk (Nat.not_lt_zero _)⟩
