theorem jr_c_O {O O2 : Nat → jt_O} {rv of pn bk lg wh : Nat → Nat} {c : Nat} {C : jt_C} (h : jr_c O rv of pn bk lg wh c C) (hc : c < 3) (hp : jc_pn C ≤ 8) (hl : jc_ln C ≤ 80) (hO : ∀ i, i < 324 → O2 i = O i) : jr_c O2 rv of pn bk lg wh c C := by
  obtain ⟨h1, h2, h3⟩ := h
  refine ⟨h1, fun i hi => ?_, fun i hi => ?_⟩
  · rw [hO _ (by omega)]; exact h2 i hi
  · rw [hO _ (by omega)]; exact h3 i hi
theorem jr_l_O {Q : jq_L} {L : jt_L} {O2 : Nat → jt_O} (h : jr_l Q L) (hO : ∀ k, k < L.2 → O2 (324 + k) = Q.1 (324 + k)) : jr_l (O2, Q.2.1, Q.2.2) L := by
  refine ⟨h.1, fun k hk => ⟨(h.2 k hk).1, fun z => ?_⟩⟩
  show O2 (324 + k) = _
  rw [hO k hk]
  exact (h.2 k hk).2 z
theorem jr_ln {S : jt_S} (hI : jt_inv S) {c : Nat} (hc : c < 3) : jc_pn (js_cl S c) ≤ 8 ∧ jc_ln (js_cl S c) ≤ 68 ∧ jc_on (js_cl S c) ≤ 1 ∧ jc_ln (js_cl S c) = jc_rv (js_cl S c) + jc_pn (js_cl S c) ∧ jc_rv (js_cl S c) ≤ js_N S := by
  obtain ⟨a1, a2, a3, a4⟩ := (hI.2.1 c hc).1
  have a5 := hI.1.1
  exact ⟨a2, by omega, a4, a3, a1⟩
/-- the line alone -/
def jq_wL (P : jq_P) (Q : jq_L) : jq_P := (Q.1, jp_num P, jp_au P, jp_rv P, jp_of P, jp_pn P, jp_bk P, jp_lg P, jp_wh P, Q.2.1, jp_wr P, jp_dn P, jp_tr P, Q.2.2)
theorem jr_wL {P : jq_P} {S : jt_S} {Q : jq_L} {L : jt_L} (h : jr P S) (hI : jt_inv S) (hQ : jr_l Q L) (hO : ∀ i, i < 324 → Q.1 i = jp_O P i) : jr (jq_wL P Q) (jt_s_L S L) := by
  obtain ⟨⟨a1, a2, a3, a4, a5⟩, h2, h3⟩ := h
  have hN := hI.1.1
  refine ⟨⟨a1, fun i hi => ?_, a3, a4, a5⟩, fun c hc => ?_, hQ⟩
  · have hi : i < js_N S := hi
    show Q.1 i = js_H S i ∧ jp_num P i = js_num S i
    rw [hO i (by omega)]
    exact a2 i hi
  · have b := jr_ln hI hc
    exact jr_c_O (C := js_cl S c) (h2 c hc) hc b.1 (by omega) hO
theorem jr_up {P : jq_P} {S : jt_S} {u t : Nat} (h : jr P S) : jr (jp_O P, jp_num P, jp_au P, jp_rv P, jp_of P, jp_pn P, jp_bk P, jp_lg P, jp_wh P, jp_ms P, jp_wr P, 1 - u, t, jp_wa P) (jt_s_up S u t) := by
  obtain ⟨⟨a1, a2, a3, a4, a5⟩, h2, h3⟩ := h
  exact ⟨⟨a1, a2, a3, rfl, rfl⟩, h2, h3⟩
theorem jr_l_rp {Q : jq_L} {L : jt_L} {k : Nat} (h : jr_l Q L) (hk : k < L.2) (hL : L.2 < 30) : jr_l (va_up Q.1 (324 + Q.2.2) (Q.1 (324 + k)), va_up Q.2.1 Q.2.2 (Q.2.1 k), Q.2.2 + 1) (jt_sd L (L.1 k)) := by
  obtain ⟨h1, h2⟩ := id h
  unfold jt_sd
  rw [if_pos hL]
  refine ⟨by show Q.2.2 + 1 = L.2 + 1; omega, fun i hi => ?_⟩
  have hi : i < L.2 + 1 := hi
  show va_up Q.2.1 Q.2.2 (Q.2.1 k) i = _ ∧ (_ → va_up Q.1 (324 + Q.2.2) (Q.1 (324 + k)) (324 + i) = (va_up L.1 L.2 (L.1 k) i).2.2.2.2.1)
  dsimp only
  by_cases ei : i = L.2
  · rw [h1, ei, va_up_self, va_up_self, va_up_self]
    exact h2 k hk
  · rw [va_up_ne Q.2.1 _ (by omega), va_up_ne Q.1 _ (by omega), va_up_ne L.1 _ ei]
    exact h2 i (by omega)
theorem jr_l_hm {Q : jq_L} {L : jt_L} {k y : Nat} (h : jr_l Q L) (hk : k < L.2) : jr_l (Q.1, va_up Q.2.1 k ((Q.2.1 k).1, (Q.2.1 k).2.1, (Q.2.1 k).2.2.1, (Q.2.1 k).2.2.2.1, (Q.2.1 k).2.2.2.2 ^^^ y), Q.2.2) (jt_hm L k y) := by
  obtain ⟨h1, h2⟩ := id h
  refine ⟨h1, fun i hi => ?_⟩
  show va_up Q.2.1 k _ i = _ ∧ (_ → Q.1 (324 + i) = (va_up L.1 k _ i).2.2.2.2.1)
  unfold jt_hm
  dsimp only
  by_cases ei : i = k
  · rw [ei, va_up_self, va_up_self]
    obtain ⟨g1, g2⟩ := h2 k hk
    rw [g1]
    exact ⟨rfl, g2⟩
  · rw [va_up_ne _ _ ei, va_up_ne _ _ ei]
    exact h2 i hi
/-- an edit made -/
def jq_mkP (P : jq_P) (O1 : Nat → jt_O) (c fl w : Nat) : jq_P := ((jq_mkQ O1 (jp_ms P) (jp_wa P) (jp_of P c) (jp_pn P c) (jp_rv P c) (jp_bk P c) c (jp_lg P c) w).1, jp_num P, jp_au P, jp_rv P, jp_of P, va_up (jp_pn P) c (jp_pn P c + 1), jp_bk P, va_up (jp_lg P) c (jp_lg P c + 1), va_up (jp_wh P) (80 * c + jp_lg P c) fl, (jq_mkQ O1 (jp_ms P) (jp_wa P) (jp_of P c) (jp_pn P c) (jp_rv P c) (jp_bk P c) c (jp_lg P c) w).2.1, jp_wr P, jp_dn P, jp_tr P, (jq_mkQ O1 (jp_ms P) (jp_wa P) (jp_of P c) (jp_pn P c) (jp_rv P c) (jp_bk P c) c (jp_lg P c) w).2.2)
theorem jr_mk {P : jq_P} {S : jt_S} {O1 : Nat → jt_O} {c fl w : Nat} (h : jr P S) (hI : jt_inv S) (hc : c < 3) (hp : jc_pn (js_cl S c) < 8) (hO1 : ∀ i, i ≠ 356 → O1 i = jp_O P i) (hw : (O1 356).1 = 2 → fl = 1 → w = jt_ch (jc_tx (js_cl S c)) (O1 356)) : jr (jq_mkP P O1 c fl w) (jt_s_mk S c (O1 356) fl) := by
  obtain ⟨⟨a1, a2, a3, a4, a5⟩, h2, h3⟩ := h
  have hN := hI.1.1
  have hL30 := hI.2.2.1
  obtain ⟨⟨c1, c2, c3, c4, c5⟩, c6, c7⟩ := h2 c hc
  obtain ⟨b1, b2, b3, b4, b5⟩ := jr_ln hI hc
  generalize eo : (if (O1 356).1 = 2 then ((O1 356).1, (O1 356).2.1, w, (O1 356).2.2.2) else O1 356) = o2
  have hOM : jq_mkO O1 c (jp_pn P c) (jp_lg P c) w = va_up (va_up O1 (300 + 8 * c + jp_pn P c) (O1 356)) (60 + 80 * c + jp_lg P c) o2 := by rw [← eo]; rfl
  have ho2 : jr_o o2 (O1 356) ∧ o2.2.2.2 = (O1 356).2.2.2 ∧ ((O1 356).1 = 2 → o2.2.2.1 = w) := by
    rw [← eo]
    by_cases e : (O1 356).1 = 2
    · rw [if_pos e]; exact ⟨⟨rfl, rfl, fun z => absurd e z⟩, rfl, fun _ => rfl⟩
    · rw [if_neg e]; exact ⟨⟨rfl, rfl, fun _ => rfl⟩, rfl, fun z => absurd z e⟩
  have hQ0 : ∀ i, i < 324 → (jq_mkQ O1 (jp_ms P) (jp_wa P) (jp_of P c) (jp_pn P c) (jp_rv P c) (jp_bk P c) c (jp_lg P c) w).1 i = va_up (va_up O1 (300 + 8 * c + jp_pn P c) (O1 356)) (60 + 80 * c + jp_lg P c) o2 i := by
    intro i hi
    unfold jq_mkQ
    by_cases e : jp_pn P c = 0
    · rw [if_pos e, jq_speak_out (Or.inl hi) (show jp_wa P ≤ 30 from (show jp_wa P = (js_L S).2 from h3.1) ▸ hL30), hOM]
    · rw [if_neg e, hOM]
  have hOo : ∀ i, i < 324 → i ≠ 300 + 8 * c + jp_pn P c → i ≠ 60 + 80 * c + jp_lg P c → (jq_mkQ O1 (jp_ms P) (jp_wa P) (jp_of P c) (jp_pn P c) (jp_rv P c) (jp_bk P c) c (jp_lg P c) w).1 i = jp_O P i := fun i hi z1 z2 => by
    rw [hQ0 i hi, va_up_ne _ _ z2, va_up_ne _ _ z1]
    exact hO1 i (by omega)
  have hl0 : jr_l (jq_mkO O1 c (jp_pn P c) (jp_lg P c) w, jp_ms P, jp_wa P) (js_L S) := jr_l_O h3 (fun k hk => by
    rw [hOM, va_up_ne _ _ (by omega), va_up_ne _ _ (by omega)]
    exact hO1 _ (by omega))
  refine ⟨⟨a1, fun i hi => ?_, a3, a4, a5⟩, fun d hd => ?_, ?_⟩
  · have hi : i < js_N S := hi
    show (jq_mkQ O1 (jp_ms P) (jp_wa P) (jp_of P c) (jp_pn P c) (jp_rv P c) (jp_bk P c) c (jp_lg P c) w).1 i = js_H S i ∧ _
    rw [hOo i (by omega) (by omega) (by omega)]
    exact a2 i hi
  · show jr_c (jq_mkQ O1 (jp_ms P) (jp_wa P) (jp_of P c) (jp_pn P c) (jp_rv P c) (jp_bk P c) c (jp_lg P c) w).1 (jp_rv P) (jp_of P) (va_up (jp_pn P) c (jp_pn P c + 1)) (jp_bk P) (va_up (jp_lg P) c (jp_lg P c + 1)) (va_up (jp_wh P) (80 * c + jp_lg P c) fl) d (va_up (js_cl S) c (jt_mk (js_cl S c) (O1 356) fl) d)
    by_cases e : d = c
    · rw [e, va_up_self]
      refine ⟨⟨c1, c2, by rw [va_up_self, c3]; rfl, c4, by rw [va_up_self, c5]; rfl⟩, fun i hi => ?_, fun i hi => ?_⟩
      · have hi : i < jc_pn (js_cl S c) + 1 := hi
        show _ = va_up (jc_pe (js_cl S c)) (jc_pn (js_cl S c)) (O1 356) i
        by_cases ei : i = jc_pn (js_cl S c)
        · rw [ei, va_up_self, hQ0 _ (by omega), va_up_ne _ _ (by omega), c3, va_up_self]
        · rw [va_up_ne _ _ ei, hOo _ (by omega) (by omega) (by omega)]
          exact c6 i (by omega)
      · have hi : i < jc_ln (js_cl S c) + 1 := hi
        show va_up (jp_wh P) _ fl (80 * c + i) = va_up (jc_lf (js_cl S c)) (jc_ln (js_cl S c)) fl i ∧ jr_o _ (va_up (jc_lo (js_cl S c)) (jc_ln (js_cl S c)) (O1 356) i) ∧ _ = (va_up (jc_lo (js_cl S c)) (jc_ln (js_cl S c)) (O1 356) i).2.2.2 ∧ ((va_up (jc_lo (js_cl S c)) (jc_ln (js_cl S c)) (O1 356) i).1 = 2 → va_up (jc_lf (js_cl S c)) (jc_ln (js_cl S c)) fl i = 1 → _ = va_up (jc_lc (js_cl S c)) (jc_ln (js_cl S c)) (jt_ch (jc_tx (js_cl S c)) (O1 356)) i)
        by_cases ei : i = jc_ln (js_cl S c)
        · rw [ei, va_up_self, va_up_self, va_up_self, hQ0 _ (by omega), c5, va_up_self, va_up_self]
          exact ⟨rfl, ho2.1, ho2.2.1, fun z1 z2 => (ho2.2.2 z1).trans (hw z1 z2)⟩
        · rw [va_up_ne _ _ ei, va_up_ne _ _ ei, va_up_ne _ _ ei, va_up_ne _ _ (by omega), hOo _ (by omega) (by omega) (by omega)]
          exact c7 i (by omega)
    · rw [va_up_ne _ _ e]
      obtain ⟨⟨d1, d2, d3, d4, d5⟩, d6, d7⟩ := h2 d hd
      obtain ⟨f1, f2, f3, f4, f5⟩ := jr_ln hI hd
      refine ⟨⟨d1, d2, by rw [va_up_ne _ _ e]; exact d3, d4, by rw [va_up_ne _ _ e]; exact d5⟩, fun i hi => ?_, fun i hi => ?_⟩
      · rw [hOo _ (by omega) (by omega) (by omega)]; exact d6 i hi
      · rw [hOo _ (by omega) (by omega) (by omega), va_up_ne _ _ (by omega)]; exact d7 i hi
  · show jr_l (jq_mkQ O1 (jp_ms P) (jp_wa P) (jp_of P c) (jp_pn P c) (jp_rv P c) (jp_bk P c) c (jp_lg P c) w) (if jc_pn (js_cl S c) = 0 then jt_sa c (jt_mk (js_cl S c) (O1 356) fl) (js_L S) else js_L S)
    unfold jq_mkQ
    by_cases e : jc_pn (js_cl S c) = 0
    · rw [if_pos e, if_pos (by omega), c2, c3, c1, c4]
      refine jr_l_speak (C := jt_mk (js_cl S c) (O1 356) fl) ?_ hL30 b3 (fun _ => ?_)
      · rw [← c3]; exact hl0
      · show jq_mkO O1 c (jc_pn (js_cl S c)) (jp_lg P c) w (300 + 8 * c) = va_up (jc_pe (js_cl S c)) (jc_pn (js_cl S c)) (O1 356) 0
        rw [← c3, hOM, va_up_ne _ _ (by omega), c3, e, va_up_self]; exact va_up_self _ _ _
    · rw [if_neg e, if_neg (by omega)]
      exact hl0
