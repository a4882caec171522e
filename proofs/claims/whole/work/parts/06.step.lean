/-! The calls, further. -/
theorem jt_ct_k (l : Nat → jt_O) (c k : Nat) : jt_ct l c k ≤ k := by
  induction k with
  | zero => exact Nat.le_refl _
  | succ k ih => unfold jt_ct; split <;> omega
/-- a client whose pending edits, numbers and revision stay -/
theorem jt_mi_same {H : Nat → jt_O} {N : Nat} {num : Nat → Nat} {cl : Nat → jt_C} {m : jt_M} {c : Nat} {C' : jt_C} (h : jt_mi H N num cl m) (e1 : jc_pe C' = jc_pe (cl c)) (e2 : jc_pn C' = jc_pn (cl c)) (e3 : jc_bk C' = jc_bk (cl c)) (e4 : jc_rv C' = jc_rv (cl c)) : jt_mi H N num (va_up cl c C') m := by
  obtain ⟨h1, h2, h3⟩ := h
  refine ⟨h1, fun e => ?_, h3⟩
  obtain ⟨g1, g2, g3, g4, g5⟩ := h2 e
  by_cases ec : m.2.1 = c
  · rw [ec] at g4 g5 ⊢
    rw [va_up_self, e1, e2, e3, e4]
    exact ⟨g1, g2, by rw [← ec]; exact g3, g4, g5⟩
  · rw [va_up_ne _ _ ec]
    exact ⟨g1, g2, g3, g4, g5⟩
def jt_s_ud (S : jt_S) (c j : Nat) : jt_S := (js_H S, js_N S, js_num S, va_up (js_cl S) c (jt_ud (js_cl S c) j), js_L S, js_up S, js_tr S)
theorem jt_inv_ud {S : jt_S} {c j : Nat} (h : jt_inv S) : jt_inv (jt_s_ud S c j) := by
  obtain ⟨h1, h2, h3, h4⟩ := h
  refine ⟨h1, fun d hd => ?_, h3, fun k hk => jt_mi_same (h4 k hk) rfl rfl rfl rfl⟩
  show jt_ci (js_H S) (js_N S) d (va_up (js_cl S) c (jt_ud (js_cl S c) j) d)
  by_cases e : d = c
  · subst e
    rw [va_up_self]
    exact jt_ci_ud (h2 d hd)
  · rw [va_up_ne _ _ e]
    exact h2 d hd
/-- the line alone changes -/
def jt_s_L (S : jt_S) (L : jt_L) : jt_S := (js_H S, js_N S, js_num S, js_cl S, L, js_up S, js_tr S)
theorem jt_inv_L {S : jt_S} {L : jt_L} (h : jt_inv S) (hL : jt_li (js_H S) (js_N S) (js_num S) (js_cl S) L) : jt_inv (jt_s_L S L) := ⟨h.1, h.2.1, hL⟩
/-- the server alone goes up or down -/
def jt_s_up (S : jt_S) (u t : Nat) : jt_S := (js_H S, js_N S, js_num S, js_cl S, js_L S, u, t)
theorem jt_inv_up {S : jt_S} {u t : Nat} (h : jt_inv S) (hu : u ≤ 1) (ht : t ≤ 2) : jt_inv (jt_s_up S u t) := by
  obtain ⟨⟨a1, a2, a3, a4, a5⟩, h2, h3⟩ := h
  exact ⟨⟨a1, a2, a3, hu, ht⟩, h2, h3⟩
/-- an op enters the history -/
def jt_s_en (S : jt_S) (o : jt_O) (n : Nat) : jt_S := (va_up (js_H S) (js_N S) o, js_N S + 1, va_up (js_num S) (js_N S) n, js_cl S, js_L S, js_up S, js_tr S)
theorem jt_inv_en {S : jt_S} {c r n : Nat} {o : jt_O} {k : Nat} (h : jt_inv S) (hN : js_N S < 60) (hm : jt_mi (js_H S) (js_N S) (js_num S) (js_cl S) (0, c, r, n, o, k)) (hn : n = jt_ct (js_H S) c (js_N S)) : jt_inv (jt_s_en S (jt_ms (js_H S) r o (js_N S - r)) n) := by
  obtain ⟨⟨a1, a2, a3, a4, a5⟩, h2, h3, h4⟩ := h
  obtain ⟨⟨m1, m2, m3, m4⟩, m5, -⟩ := hm
  dsimp only at m1 m2 m3 m4 m5
  obtain ⟨g1, g2, g3, g4, g5⟩ := m5 rfl
  have hC := h2 c m2
  obtain ⟨⟨q1, q2, q3, q4⟩, q5, ⟨r1, r2, r3⟩, q6⟩ := id hC
  have hge : jt_ct (js_H S) c (jc_rv (js_cl S c)) ≤ jt_ct (js_H S) c (js_N S) := jt_ct_le q1
  have hbk : n = jc_bk (js_cl S c) := by omega
  obtain ⟨t1, t2, t3⟩ := g5 hbk
  have hsite : (jt_ms (js_H S) r o (js_N S - r)).2.2.2 = c := by rw [jt_ms_site]; exact g3
  have hok := jt_ms_ok a2 g1 (js_N S - r) (by omega)
  rw [show r + (js_N S - r) = js_N S by omega] at hok
  have hms : jt_ms (js_H S) r o (js_N S - r) = jt_ms (js_H S) (jc_rv (js_cl S c)) (jc_pe (js_cl S c) 0) (js_N S - jc_rv (js_cl S c)) := by
    rw [show js_N S - r = (jc_rv (js_cl S c) - r) + (js_N S - jc_rv (js_cl S c)) by omega, jt_ms_add, t3, show r + (jc_rv (js_cl S c) - r) = jc_rv (js_cl S c) by omega]
  have hct := jt_ct_k (js_H S) c (js_N S)
  refine ⟨⟨by show js_N S + 1 ≤ 60; omega, jt_all_up a2 hok (jt_ms_wf g2 _), fun i hi => ?_, a4, a5⟩, fun d hd => ?_, h3, fun j hj => jt_mi_his (h4 j hj) (fun d hd => (h2 d hd).1.1)⟩
  · have hi : i < js_N S + 1 := hi
    show va_up (js_num S) (js_N S) n i < 100
    by_cases e : i = js_N S
    · subst e
      rw [va_up_self]
      omega
    · rw [va_up_ne _ _ e]
      exact a3 i (by omega)
  · refine jt_ci_his (h2 d hd) (fun e => ?_)
    rw [hsite] at e
    subst e
    exact ⟨t1, by show jt_ct (js_H S) c (js_N S) = jc_bk (js_cl S c); omega, hms⟩
/-- what the server does with an EDIT -/
def jt_s_ed (S : jt_S) (c r n : Nat) (o : jt_O) : jt_S :=
  if n < jt_ct (js_H S) c (js_N S) then jt_s_L S (jt_nw (js_H S) (js_num S) c r (js_L S) (js_N S - r))
  else if jt_ct (js_H S) c (js_N S) < n ∨ 60 ≤ js_N S then S
  else if js_tr S = 1 then jt_s_up S 0 (js_tr S)
  else if js_tr S = 2 then jt_s_up (jt_s_en S (jt_ms (js_H S) r o (js_N S - r)) n) 0 (js_tr S)
  else jt_s_L (jt_s_en S (jt_ms (js_H S) r o (js_N S - r)) n) (jt_na (va_up (js_H S) (js_N S) (jt_ms (js_H S) r o (js_N S - r))) (va_up (js_num S) (js_N S) n) (js_N S) (js_L S) 3)
theorem jt_inv_ed {S : jt_S} {c r n : Nat} {o : jt_O} {k : Nat} (h : jt_inv S) (hm : jt_mi (js_H S) (js_N S) (js_num S) (js_cl S) (0, c, r, n, o, k)) : jt_inv (jt_s_ed S c r n o) := by
  have hc : c < 3 := hm.1.2.1
  have hr : r ≤ js_N S := hm.1.2.2.2
  unfold jt_s_ed
  split
  · exact jt_inv_L h (jt_li_nw (jt_inv_li h) hc _ (by omega))
  · split
    · exact h
    · next e1 e2 =>
      split
      · exact jt_inv_up h (by decide) h.1.2.2.2.2
      · have hen := jt_inv_en h (by omega) hm (by omega)
        split
        · exact jt_inv_up hen (by decide) h.1.2.2.2.2
        · exact jt_inv_L hen (jt_li_na (jt_inv_li hen) (show js_N S < js_N S + 1 by omega) 3 (Nat.le_refl _))
/-- what a client does with the NEWS of the op i -/
def jt_s_nw (S : jt_S) (c i : Nat) : jt_S :=
  if jc_on (js_cl S c) = 0 ∨ i ≠ jc_rv (js_cl S c) then S
  else if (js_H S i).2.2.2 = c then
    (js_H S, js_N S, js_num S, va_up (js_cl S) c (jt_ow (js_cl S c)), if jc_pn (js_cl S c) - 1 = 0 then js_L S else jt_sa c (jt_ow (js_cl S c)) (js_L S), js_up S, js_tr S)
  else (js_H S, js_N S, js_num S, va_up (js_cl S) c (jt_ot (js_cl S c) (js_H S i)), js_L S, js_up S, js_tr S)
theorem jt_inv_nw {S : jt_S} {c i : Nat} (h : jt_inv S) (hc : c < 3) (hi : i < js_N S) : jt_inv (jt_s_nw S c i) := by
  obtain ⟨h1, h2, h3, h4⟩ := id h
  have hC := h2 c hc
  have up : ∀ {C' : jt_C}, jt_ci (js_H S) (js_N S) c C' → ∀ d, d < 3 → jt_ci (js_H S) (js_N S) d (va_up (js_cl S) c C' d) := fun {C'} hC' d hd => by
    by_cases e : d = c
    · subst e
      rw [va_up_self]
      exact hC'
    · rw [va_up_ne _ _ e]
      exact h2 d hd
  unfold jt_s_nw
  split
  · exact h
  · next e1 =>
    have e2 : i = jc_rv (js_cl S c) := by
      by_cases q : i = jc_rv (js_cl S c)
      · exact q
      · exact absurd (Or.inr q) e1
    split
    · next hs =>
      rw [e2] at hs hi
      obtain ⟨-, -, hO⟩ := jt_ci_own hC hi hs
      have hL : jt_li (js_H S) (js_N S) (js_num S) (va_up (js_cl S) c (jt_ow (js_cl S c))) (js_L S) := ⟨h3, fun k hk => jt_mi_own (h4 k hk)⟩
      refine ⟨h1, up hO, ?_⟩
      show jt_li (js_H S) (js_N S) (js_num S) (va_up (js_cl S) c (jt_ow (js_cl S c))) (if jc_pn (js_cl S c) - 1 = 0 then js_L S else jt_sa c (jt_ow (js_cl S c)) (js_L S))
      split
      · exact hL
      · have := jt_li_sa hL hc (up hO c hc)
        rw [va_up_self] at this
        exact this
    · next hs =>
      rw [e2] at hs hi ⊢
      exact ⟨h1, up (jt_ci_oth hC h1.2.1 hi hs), h3, fun k hk => jt_mi_oth (h4 k hk)⟩
/-- a message delivered -/
def jt_s_dl (S : jt_S) (k : Nat) : jt_S :=
  if ((js_L S).1 k).2.2.2.2.2 ≠ 0 then jt_s_L S (jt_tk (js_L S) k)
  else if ((js_L S).1 k).1 = 2 then jt_s_nw (jt_s_L S (jt_tk (js_L S) k)) ((js_L S).1 k).2.1 ((js_L S).1 k).2.2.1
  else if js_up S = 0 then jt_s_L S (jt_tk (js_L S) k)
  else if ((js_L S).1 k).1 = 0 then jt_s_ed (jt_s_L S (jt_tk (js_L S) k)) ((js_L S).1 k).2.1 ((js_L S).1 k).2.2.1 ((js_L S).1 k).2.2.2.1 ((js_L S).1 k).2.2.2.2.1
  else jt_s_L S (jt_nw (js_H S) (js_num S) ((js_L S).1 k).2.1 ((js_L S).1 k).2.2.1 (jt_tk (js_L S) k) (js_N S - ((js_L S).1 k).2.2.1))
theorem jt_inv_dl {S : jt_S} {k : Nat} (h : jt_inv S) (hk : k < (js_L S).2) : jt_inv (jt_s_dl S k) := by
  have hm := h.2.2.2 k hk
  have hT := jt_inv_L h (jt_li_tk (jt_inv_li h) hk)
  unfold jt_s_dl
  split
  · exact hT
  · split
    · next e => exact jt_inv_nw hT hm.1.2.1 (hm.2.2 e).1
    · split
      · exact hT
      · split
        · next e =>
          refine jt_inv_ed (k := ((js_L S).1 k).2.2.2.2.2) hT ?_
          have hm2 : jt_mi (js_H S) (js_N S) (js_num S) (js_cl S) (((js_L S).1 k).1, ((js_L S).1 k).2.1, ((js_L S).1 k).2.2.1, ((js_L S).1 k).2.2.2.1, ((js_L S).1 k).2.2.2.2.1, ((js_L S).1 k).2.2.2.2.2) := hm
          rw [e] at hm2
          exact hm2
        · exact jt_inv_L h (jt_li_nw (jt_li_tk (jt_inv_li h) hk) hm.1.2.1 _ (by have := hm.1.2.2.2; omega))
/-- a new object -/
def jt_s_0 : jt_S := (fun _ => (0, 0, 0, 0), 0, fun _ => 0, fun _ => (fun _ => (0, 0, 0, 0), fun _ => 0, fun _ => 0, 0, fun _ => (0, 0, 0, 0), 0, 0, 0, 1), (fun _ => (0, 0, 0, 0, (0, 0, 0, 0), 0), 0), 1, 0)
theorem jt_inv_0 : jt_inv jt_s_0 := by
  refine ⟨⟨by decide, fun k hk => absurd hk (Nat.not_lt_zero _), fun i hi => absurd hi (Nat.not_lt_zero _), by decide, by decide⟩, fun c hc => ?_, by decide, fun k hk => absurd hk (Nat.not_lt_zero _)⟩
  exact ⟨⟨Nat.le_refl _, Nat.zero_le _, rfl, Nat.le_refl _⟩, ⟨fun k hk => absurd hk (Nat.not_lt_zero _), fun k hk => absurd hk (Nat.not_lt_zero _), rfl, fun k hk => absurd hk (Nat.not_lt_zero _)⟩, ⟨rfl, Nat.zero_le _, fun k _ hk => absurd hk (Nat.not_lt_zero _)⟩, fun k hk => absurd hk (Nat.not_lt_zero _)⟩
