theorem jr_mv {a b b2 : jt_O} (h1 : b.1 = b2.1) (h2 : b.2.1 = b2.2.1) (h3 : b.2.2.2 = b2.2.2.2) : jt_mv a b = jt_mv a b2 := by
  unfold jt_mv
  rw [h1, h2, h3]
theorem jr_rm {O H : Nat → jt_O} {r : Nat} : ∀ j, (∀ i, i < j → (O (r + i)).1 = (H (r + i)).1 ∧ (O (r + i)).2.1 = (H (r + i)).2.1 ∧ (O (r + i)).2.2.2 = (H (r + i)).2.2.2) → jq_rm O r j 356 = jt_ms H r (O 356) j := by
  intro j
  induction j with
  | zero => intro _; rfl
  | succ j ih =>
    intro h
    obtain ⟨h1, h2, h3⟩ := h j (by omega)
    rw [jq_rm, va_up_self, ih (fun i hi => h i (by omega)), jt_ms, jr_mv h1 h2 h3]
theorem jr_hr {O pe : Nat → jt_O} {c n : Nat} (hc : c < 3) (hn : n ≤ 8) (h : ∀ i, i < n → O (300 + 8 * c + i) = pe i) : ∀ j, j ≤ n → jq_hr O c j 356 = jt_oc pe (O 356) j ∧ ∀ i, i < n → jq_hr O c j (300 + 8 * c + i) = if i < j then jt_pp pe (O 356) i else pe i := by
  intro j
  induction j with
  | zero => intro _; exact ⟨rfl, fun i hi => h i hi⟩
  | succ j ih =>
    intro hj
    obtain ⟨e1, e2⟩ := ih (by omega)
    have e3 := h j (by omega)
    constructor
    · rw [jq_hr, va_up_ne _ _ (by omega), va_up_self, e1, e3, jt_oc]
    · intro i hi
      rw [jq_hr]
      by_cases ei : i = j
      · rw [ei, va_up_self, e1, e3, if_pos (by omega)]; rfl
      · rw [va_up_ne _ _ (by omega), va_up_ne _ _ (by omega), va_up_ne _ _ (by omega), e2 i hi]
        by_cases ej : i < j
        · rw [if_pos ej, if_pos (by omega)]
        · rw [if_neg ej, if_neg (by omega)]
theorem jr_hear {P : jq_P} {S : jt_S} {c i : Nat} (h : jr P S) (hI : jt_inv S) (hc : c < 3) (hi : i < js_N S) (ho : jp_O P 356 = js_H S i) : jr (jq_hear P c i) (jt_s_nw S c i) := by
  obtain ⟨⟨a1, a2, a3, a4, a5⟩, h2, h3⟩ := id h
  have hN := hI.1.1
  have hL30 := hI.2.2.1
  obtain ⟨⟨c1, c2, c3, c4, c5⟩, c6, c7⟩ := h2 c hc
  obtain ⟨b1, b2, b3, b4, b5⟩ := jr_ln hI hc
  unfold jq_hear jt_s_nw
  by_cases e1 : jc_on (js_cl S c) = 0 ∨ i ≠ jc_rv (js_cl S c)
  · rw [if_pos e1, if_pos (by rw [c2, c1]; omega)]; exact h
  · rw [if_neg e1, if_neg (by rw [c2, c1]; omega), ho]
    have er : i = jc_rv (js_cl S c) := by omega
    by_cases e2 : (js_H S i).2.2.2 = c
    · rw [if_pos e2, if_pos e2]
      have hpn : jc_pn (js_cl S c) ≠ 0 := (jt_ci_own (hI.2.1 c hc) (by omega) (er ▸ e2)).1
      have hQ0 : ∀ i, i < 324 → (jq_hoQ (jp_O P) (jp_ms P) (jp_wa P) (jp_of P c) (jp_pn P c) (jp_rv P c) (jp_bk P c) c).1 i = jq_sh (jp_O P) (300 + 8 * c) 0 (jp_pn P c - 1) i := by
        intro i hi
        unfold jq_hoQ
        by_cases e : jp_pn P c - 1 = 0
        · rw [if_pos e]
        · rw [if_neg e, jq_speak_out (Or.inl hi) (show jp_wa P ≤ 30 from (show jp_wa P = (js_L S).2 from h3.1) ▸ hL30)]
      have hOo : ∀ i, i < 324 → (i < 300 + 8 * c ∨ 300 + 8 * c + (jp_pn P c - 1) ≤ i) → (jq_hoQ (jp_O P) (jp_ms P) (jp_wa P) (jp_of P c) (jp_pn P c) (jp_rv P c) (jp_bk P c) c).1 i = jp_O P i := by
        intro i hi z
        rw [hQ0 i hi]
        unfold jq_sh
        rw [if_neg (by omega)]
      have hl0 : jr_l (jq_sh (jp_O P) (300 + 8 * c) 0 (jp_pn P c - 1), jp_ms P, jp_wa P) (js_L S) := jr_l_O h3 (fun k hk => by
        unfold jq_sh
        rw [if_neg (by omega)])
      refine ⟨⟨a1, fun i hi => ?_, a3, a4, a5⟩, fun d hd => ?_, ?_⟩
      · have hi : i < js_N S := hi
        show (jq_hoQ (jp_O P) (jp_ms P) (jp_wa P) (jp_of P c) (jp_pn P c) (jp_rv P c) (jp_bk P c) c).1 i = js_H S i ∧ _
        rw [hOo i (by omega) (by omega)]
        exact a2 i hi
      · show jr_c (jq_hoQ (jp_O P) (jp_ms P) (jp_wa P) (jp_of P c) (jp_pn P c) (jp_rv P c) (jp_bk P c) c).1 (va_up (jp_rv P) c (jp_rv P c + 1)) (jp_of P) (va_up (jp_pn P) c (jp_pn P c - 1)) (va_up (jp_bk P) c (jp_bk P c + 1)) (jp_lg P) (jp_wh P) d (va_up (js_cl S) c (jt_ow (js_cl S c)) d)
        by_cases e : d = c
        · rw [e, va_up_self]
          refine ⟨⟨by rw [va_up_self, c1]; rfl, c2, by rw [va_up_self, c3]; rfl, by rw [va_up_self, c4]; rfl, c5⟩, fun i hi => ?_, fun i hi => ?_⟩
          · have hi : i < jc_pn (js_cl S c) - 1 := hi
            show _ = jc_pe (js_cl S c) (i + 1)
            rw [hQ0 _ (by omega)]
            unfold jq_sh
            rw [if_pos (by omega)]
            exact c6 (i + 1) (by omega)
          · have hi : i < jc_ln (js_cl S c) := hi
            rw [hOo _ (by omega) (by omega)]
            exact c7 i hi
        · rw [va_up_ne _ _ e]
          obtain ⟨⟨d1, d2, d3, d4, d5⟩, d6, d7⟩ := h2 d hd
          obtain ⟨f1, f2, f3, f4, f5⟩ := jr_ln hI hd
          refine ⟨⟨by rw [va_up_ne _ _ e]; exact d1, d2, by rw [va_up_ne _ _ e]; exact d3, by rw [va_up_ne _ _ e]; exact d4, d5⟩, fun i hi => ?_, fun i hi => ?_⟩
          · rw [hOo _ (by omega) (by omega)]; exact d6 i hi
          · rw [hOo _ (by omega) (by omega)]; exact d7 i hi
      · show jr_l (jq_hoQ (jp_O P) (jp_ms P) (jp_wa P) (jp_of P c) (jp_pn P c) (jp_rv P c) (jp_bk P c) c) (if jc_pn (js_cl S c) - 1 = 0 then js_L S else jt_sa c (jt_ow (js_cl S c)) (js_L S))
        unfold jq_hoQ
        by_cases e : jc_pn (js_cl S c) - 1 = 0
        · rw [if_pos e, if_pos (by omega)]; exact hl0
        · rw [if_neg e, if_neg (by omega), c2, c3, c1, c4]
          refine jr_l_speak (C := jt_ow (js_cl S c)) (by rw [← c3]; exact hl0) hL30 b3 (fun _ => ?_)
          show jq_sh (jp_O P) (300 + 8 * c) 0 (jc_pn (js_cl S c) - 1) (300 + 8 * c) = jc_pe (js_cl S c) 1
          unfold jq_sh
          rw [if_pos (by omega)]
          exact c6 1 (by omega)
    · rw [if_neg e2, if_neg e2]
      have hh := jr_hr (O := jp_O P) (pe := jc_pe (js_cl S c)) hc b1 c6
      have hP := hh (jp_pn P c) (by omega)
      rw [ho] at hP
      have hOo : ∀ i, i < 300 → i ≠ 60 + 80 * c + jp_lg P c → va_up (jq_hr (jp_O P) c (jp_pn P c)) (60 + 80 * c + jp_lg P c) (jq_hr (jp_O P) c (jp_pn P c) 356) i = jp_O P i := fun i hi z => by
        rw [va_up_ne _ _ z]
        exact jq_hr_out (by omega) (by omega) _ (Or.inl (by omega))
      refine ⟨⟨a1, fun i hi => ?_, a3, a4, a5⟩, fun d hd => ?_, ?_⟩
      · have hi : i < js_N S := hi
        show va_up (jq_hr (jp_O P) c (jp_pn P c)) (60 + 80 * c + jp_lg P c) (jq_hr (jp_O P) c (jp_pn P c) 356) i = js_H S i ∧ _
        rw [hOo i (by omega) (by omega)]
        exact a2 i hi
      · show jr_c (va_up (jq_hr (jp_O P) c (jp_pn P c)) (60 + 80 * c + jp_lg P c) (jq_hr (jp_O P) c (jp_pn P c) 356)) (va_up (jp_rv P) c (jp_rv P c + 1)) (jp_of P) (jp_pn P) (jp_bk P) (va_up (jp_lg P) c (jp_lg P c + 1)) (va_up (jp_wh P) (80 * c + jp_lg P c) 0) d (va_up (js_cl S) c (jt_ot (js_cl S c) (js_H S i)) d)
        by_cases e : d = c
        · rw [e, va_up_self]
          refine ⟨⟨by rw [va_up_self, c1]; rfl, c2, c3, c4, by rw [va_up_self, c5]; rfl⟩, fun k hk => ?_, fun k hk => ?_⟩
          · have hk : k < jc_pn (js_cl S c) := hk
            show _ = if k < jc_pn (js_cl S c) then jt_pp (jc_pe (js_cl S c)) (js_H S i) k else jc_pe (js_cl S c) k
            rw [va_up_ne _ _ (by omega), hP.2 k hk, c3]
          · have hk : k < jc_ln (js_cl S c) + 1 := hk
            show va_up (jp_wh P) _ 0 (80 * c + k) = va_up (jc_lf (js_cl S c)) (jc_ln (js_cl S c)) 0 k ∧ jr_o _ (va_up (jc_lo (js_cl S c)) (jc_ln (js_cl S c)) (jt_oc (jc_pe (js_cl S c)) (js_H S i) (jc_pn (js_cl S c))) k) ∧ _ = (va_up (jc_lo (js_cl S c)) (jc_ln (js_cl S c)) (jt_oc (jc_pe (js_cl S c)) (js_H S i) (jc_pn (js_cl S c))) k).2.2.2 ∧ ((va_up (jc_lo (js_cl S c)) (jc_ln (js_cl S c)) (jt_oc (jc_pe (js_cl S c)) (js_H S i) (jc_pn (js_cl S c))) k).1 = 2 → va_up (jc_lf (js_cl S c)) (jc_ln (js_cl S c)) 0 k = 1 → _ = va_up (jc_lc (js_cl S c)) (jc_ln (js_cl S c)) _ k)
            by_cases ek : k = jc_ln (js_cl S c)
            · rw [ek, va_up_self, va_up_self, va_up_self, c5, va_up_self, va_up_self, hP.1, c3]
              exact ⟨rfl, ⟨rfl, rfl, fun _ => rfl⟩, rfl, fun _ z => absurd z (by decide)⟩
            · rw [va_up_ne _ _ ek, va_up_ne _ _ ek, va_up_ne _ _ ek, va_up_ne (jp_wh P) _ (by omega), hOo _ (by omega) (by omega)]
              exact c7 k (by omega)
        · rw [va_up_ne _ _ e]
          obtain ⟨⟨d1, d2, d3, d4, d5⟩, d6, d7⟩ := h2 d hd
          obtain ⟨f1, f2, f3, f4, f5⟩ := jr_ln hI hd
          refine ⟨⟨by rw [va_up_ne _ _ e]; exact d1, d2, d3, d4, by rw [va_up_ne _ _ e]; exact d5⟩, fun k hk => ?_, fun k hk => ?_⟩
          · rw [va_up_ne _ _ (by omega), jq_hr_out (by omega) (by omega) _ (by omega)]; exact d6 k hk
          · rw [hOo _ (by omega) (by omega), va_up_ne _ _ (by omega)]; exact d7 k hk
      · refine jr_l_O h3 (fun k hk => ?_)
        show va_up (jq_hr (jp_O P) c (jp_pn P c)) (60 + 80 * c + jp_lg P c) (jq_hr (jp_O P) c (jp_pn P c) 356) (324 + k) = jp_O P (324 + k)
        rw [va_up_ne _ _ (by omega)]
        exact jq_hr_out (by omega) (by omega) _ (Or.inr (by omega))
